import java.io.IOException;
import java.lang.reflect.Field;
import java.lang.reflect.Method;
import java.lang.reflect.Modifier;
import java.nio.file.Files;
import java.nio.file.Path;
import java.util.HashMap;
import java.util.Map;
import java.util.Set;
import java.util.TreeSet;
import java.util.regex.Matcher;
import java.util.regex.Pattern;

/**
 * README.md tells the truth: its example answers what it says, its tables name each call of the class
 * and each constant, and a call's refusals are those of its promise in ../shared/DOC.md.
 */
public final class ReadmeTests {
    private static final Path README = Path.of("README.md");
    private static final Path DOCUMENT = Path.of("..", "shared", "DOC.md");
    private static final Pattern LINE = Pattern.compile("(?:int (\\w+) = )?x\\.(\\w+)\\(([^)]*)\\); *// (-?\\d+): .+");
    private static int wrong = 0;

    public static void main(String[] args) throws IOException, ReflectiveOperationException {
        String readme = Files.readString(README);
        example(readme);
        calls(readme);
        constants(readme);
        refusals(readme);
        System.out.println(wrong == 0 ? "README.md tells the truth" : wrong + " faults in README.md");
        if (wrong != 0) {
            System.exit(1);
        }
    }

    private static void say(String fault) {
        wrong++;
        System.out.println(fault);
    }

    private static void example(String readme) throws ReflectiveOperationException {
        int from = readme.indexOf("```java\n");
        int to = readme.indexOf("```\n", from + 8);
        if (from < 0 || to < 0) {
            say("README.md has no example");
            return;
        }
        String[] lines = readme.substring(from + 8, to).split("\n");
        if (!lines[0].equals("GreatMachine x = new GreatMachine();") || lines.length < 10) {
            say("the example begins otherwise: " + lines[0]);
            return;
        }
        GreatMachine x = new GreatMachine();
        Map<String, Integer> names = new HashMap<>();
        for (int i = 1; i < lines.length; i++) {
            Matcher line = LINE.matcher(lines[i]);
            if (!line.matches()) {
                say("no call with its answer: " + lines[i]);
                continue;
            }
            int answer = answer(x, line.group(2), line.group(3).split(", "), names);
            if (answer != Integer.parseInt(line.group(4))) {
                say("answers " + answer + ": " + lines[i]);
            }
            if (line.group(1) != null) {
                names.put(line.group(1), answer);
            }
        }
    }

    private static int answer(GreatMachine x, String name, String[] args, Map<String, Integer> names)
            throws ReflectiveOperationException {
        for (Method method : GreatMachine.class.getMethods()) {
            if (method.getName().equals(name) && method.getParameterCount() == args.length) {
                Object[] values = new Object[args.length];
                for (int i = 0; i < args.length; i++) {
                    values[i] = value(args[i], method.getParameterTypes()[i], names);
                }
                return (Integer) method.invoke(x, values);
            }
        }
        throw new NoSuchMethodException(name);
    }

    private static Object value(String arg, Class<?> type, Map<String, Integer> names) {
        if (type == boolean.class) {
            return Boolean.valueOf(arg);
        }
        return names.containsKey(arg) ? names.get(arg) : Integer.valueOf(arg);
    }

    /** The row of a call: "| `name(one, two)` | .. |". */
    private static Matcher row(String readme, String name) {
        return Pattern.compile("(?m)^\\| `" + name + "\\(([^)]*)\\)` \\|(.*)\\|$").matcher(readme);
    }

    private static void calls(String readme) {
        for (Method method : GreatMachine.class.getDeclaredMethods()) {
            if (Modifier.isPublic(method.getModifiers())) {
                Matcher row = row(readme, method.getName());
                if (!row.find() || row.group(1).split(", ").length != method.getParameterCount() || row.find()) {
                    say("not one row with all that it takes: " + method.getName());
                }
            }
        }
    }

    private static void constants(String readme) throws IllegalAccessException {
        for (Field field : GreatMachine.class.getFields()) {
            String value = String.valueOf(field.getInt(null));
            if (!readme.contains("| `" + field.getName() + "` | " + value + " |")
                    && !readme.contains("`" + field.getName() + "` (" + value + ")")) {
                say("the constant is not told with its value: " + field.getName());
            }
        }
    }

    private static void refusals(String readme) throws IOException {
        if (!Files.isRegularFile(DOCUMENT)) {
            System.out.println("no " + DOCUMENT + " here: refusals were not compared");
            return;
        }
        Matcher promise = Pattern.compile("(?m)^`int (\\w+)\\(.*\\)`: (.*)$").matcher(Files.readString(DOCUMENT));
        int found = 0;
        for (; promise.find(); found++) {
            Matcher row = row(readme, promise.group(1));
            String said = row.find() ? row.group(2).substring(row.group(2).lastIndexOf('|')) : "";
            if (!codes(said).equals(codes(promise.group(2)))) {
                say(promise.group(1) + " is refused " + codes(promise.group(2)) + ", README.md says " + codes(said));
            }
        }
        if (found != 20) {
            say("the document has 20 calls, found " + found);
        }
    }

    private static Set<String> codes(String text) {
        Set<String> codes = new TreeSet<>();
        for (String code : "UNKNOWN OUTSIDE NOT FULL".split(" ")) {
            if (text.contains(code)) {
                codes.add(code);
            }
        }
        return codes;
    }
}
