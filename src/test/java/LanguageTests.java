import java.io.IOException;
import java.lang.reflect.Field;
import java.lang.reflect.Method;
import java.lang.reflect.Modifier;
import java.nio.file.Files;
import java.nio.file.Path;
import java.util.HashSet;
import java.util.List;
import java.util.Set;
import java.util.regex.Matcher;
import java.util.regex.Pattern;

/** What ../shared/LANGUAGE.md leaves out and can be seen in the text of the class or in its members. */
public final class LanguageTests {
    private static final String SOURCE = "src/main/java/GreatMachine.java";
    private static final List<String> IMPORTS =
            List.of("import java.util.ArrayList;", "import java.util.List;", "import java.util.Arrays;", "import java.util.Iterator;");
    private static final Set<String> LIBRARY = Set.of("Integer.compare", "Integer.max", "Integer.min", "Integer.abs",
            "Integer.bitCount", "Long.compare", "Long.max", "Long.min", "Long.abs", "Long.bitCount", "Math.abs", "Math.max",
            "Math.min", "Math.floorDiv", "Math.floorMod", "System.arraycopy", "Arrays.copyOf", "Arrays.copyOfRange",
            "Arrays.fill", "List.of");
    private static int wrong = 0;

    public static void main(String[] args) throws IOException {
        String text = Files.readString(Path.of(SOURCE));
        String code = text.replaceAll("(?s)/\\*.*?\\*/", "").replaceAll("//[^\n]*", "");
        none(code, "\\b(throw|throws|try|catch|synchronized|assert|package|protected|volatile|native)\\b");
        none(code, "->|::");
        none(code, "\\bstatic\\s*\\{");
        none(code, "\\b(equals|hashCode|toString)\\s*\\([^)]*\\)\\s*\\{");
        none(code, "\\b(System\\.(?!arraycopy)\\w+|Random|Thread|Object|Math\\.\\w+Exact|values\\(\\))");
        none(code, "[^\\x00-\\x7f]");
        for (String line : code.split("\n")) {
            if (line.startsWith("import ") && !IMPORTS.contains(line.trim())) {
                say("not in the library: " + line);
            }
        }
        if (code.split("\\b(class|record|enum|interface) [A-Z]").length - 1 > 12) {
            say("more than twelve classes");
        }
        methods(code);
        library(code);
        members();
        System.out.println(wrong == 0 ? "the language is kept" : wrong + " faults of language");
        if (wrong != 0) {
            System.exit(1);
        }
    }

    private static void say(String fault) {
        wrong++;
        System.out.println(fault);
    }

    private static void none(String code, String pattern) {
        Matcher found = Pattern.compile(pattern).matcher(code);
        while (found.find()) {
            say("left out by the language: " + found.group());
        }
    }

    /** A method begins at a line that ends its head with "{" and ends at the bracket of the same depth. */
    private static void methods(String code) {
        String[] lines = code.split("\n");
        Pattern head = Pattern.compile("^( ++)(?!if|for|while|switch|else|return|\\})[\\w<>\\[\\] ]+\\(([^()]*)\\) \\{$");
        for (int i = 0; i < lines.length; i++) {
            Matcher found = head.matcher(lines[i]);
            if (!found.matches()) {
                continue;
            }
            int end = i;
            while (end < lines.length && !lines[end].equals(found.group(1) + "}")) {
                end++;
            }
            if (end - i > 60) {
                say("longer than sixty lines: " + lines[i].trim());
            }
            if (found.group(2).split(",").length > 7) {
                say("more than seven parameters: " + lines[i].trim());
            }
        }
    }

    /** Only static functions begin with the name of a class: each must be one of the library. */
    private static void library(String code) {
        Matcher call = Pattern.compile("\\b([A-Z]\\w*\\.\\w+)\\s*\\(").matcher(code);
        while (call.find()) {
            if (!LIBRARY.contains(call.group(1))) {
                say("not of the library: " + call.group(1));
            }
        }
    }

    private static void members() {
        Set<String> face = new HashSet<>();
        for (Method method : GreatMachine.class.getMethods()) {
            if (method.getDeclaringClass() == GreatMachine.class) {
                face.add(method.getName());
            }
        }
        for (Method method : GreatMachine.class.getDeclaredMethods()) {
            if (!Modifier.isPublic(method.getModifiers()) && face.contains(method.getName())) {
                say("bears the name of a public one: " + method);
            }
        }
        fields(GreatMachine.class);
        for (Class<?> inside : GreatMachine.class.getDeclaredClasses()) {
            if (!Modifier.isStatic(inside.getModifiers()) || Modifier.isPublic(inside.getModifiers())
                    || Modifier.isProtected(inside.getModifiers()) || inside.getDeclaredClasses().length > 0) {
                say("a class inside that is not static, or seen from outside, or holds others: " + inside);
            }
            fields(inside);
        }
    }

    private static void fields(Class<?> where) {
        int own = 0;
        for (Field field : where.getDeclaredFields()) {
            if (Modifier.isStatic(field.getModifiers())) {
                if (!Modifier.isFinal(field.getModifiers())) {
                    say("static, but not final: " + field);
                }
            } else {
                own++;
            }
            Class<?> of = field.getType().isArray() ? field.getType().getComponentType() : field.getType();
            if (!of.isPrimitive() && of.getNestHost() != GreatMachine.class) {
                say("of a type that the class needs not: " + field);
            }
        }
        if (own > 20) {
            say("more than twenty fields: " + where);
        }
    }
}
