import java.io.IOException;
import java.nio.file.Files;
import java.nio.file.Path;
import java.util.List;
import java.util.regex.Matcher;
import java.util.regex.Pattern;

/** What ../shared/LANGUAGE.md leaves out and can be seen in the text of the class. */
public final class LanguageTests {
    private static final String SOURCE = "src/main/java/GreatMachine.java";
    private static final List<String> IMPORTS =
            List.of("import java.util.ArrayList;", "import java.util.List;", "import java.util.Arrays;", "import java.util.Iterator;");
    private static int wrong = 0;

    public static void main(String[] args) throws IOException {
        String text = Files.readString(Path.of(SOURCE));
        String code = text.replaceAll("(?s)/\\*.*?\\*/", "").replaceAll("//[^\n]*", "");
        none(code, "\\b(throw|throws|try|catch|synchronized|assert|package|protected|volatile|native)\\b");
        none(code, "->|::");
        none(code, "\\bstatic\\s*\\{");
        none(code, "\\b(equals|hashCode|toString)\\s*\\([^)]*\\)\\s*\\{");
        none(code, "\\b(System\\.(?!arraycopy)\\w+|Random|Thread|Object|Math\\.\\w+Exact|values\\(\\))");
        none(code, "[^\\x00-\\x7f]");
        for (String line : code.split("\n")) {
            if (line.startsWith("import ") && !IMPORTS.contains(line.trim())) {
                say("not in the library: " + line);
            }
        }
        if (code.split("\\b(class|record|enum|interface) [A-Z]").length - 1 > 12) {
            say("more than twelve classes");
        }
        methods(code);
        System.out.println(wrong == 0 ? "the language is kept" : wrong + " faults of language");
        if (wrong != 0) {
            System.exit(1);
        }
    }

    private static void say(String fault) {
        wrong++;
        System.out.println(fault);
    }

    private static void none(String code, String pattern) {
        Matcher found = Pattern.compile(pattern).matcher(code);
        while (found.find()) {
            say("left out by the language: " + found.group());
        }
    }

    /** A method begins at a line that ends its head with "{" and ends at the bracket of the same depth. */
    private static void methods(String code) {
        String[] lines = code.split("\n");
        Pattern head = Pattern.compile("^( ++)(?!if|for|while|switch|else|return|\\})[\\w<>\\[\\] ]+\\(([^()]*)\\) \\{$");
        for (int i = 0; i < lines.length; i++) {
            Matcher found = head.matcher(lines[i]);
            if (!found.matches()) {
                continue;
            }
            int end = i;
            while (end < lines.length && !lines[end].equals(found.group(1) + "}")) {
                end++;
            }
            if (end - i > 60) {
                say("longer than sixty lines: " + lines[i].trim());
            }
            if (found.group(2).split(",").length > 7) {
                say("more than seven parameters: " + lines[i].trim());
            }
        }
    }
}
