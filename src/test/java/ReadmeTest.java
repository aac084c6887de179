import java.io.File;
import java.io.IOException;
import java.lang.reflect.Method;
import java.lang.reflect.Modifier;
import java.nio.file.Files;
import java.nio.file.Path;
import java.util.HashMap;
import java.util.List;
import java.util.Map;
import java.util.regex.Matcher;
import java.util.regex.Pattern;

/** README.md says what is so: its example is run, and its tables are compared with the class. */
public final class ReadmeTest {
    private static final Check c = new Check("ReadmeTest");
    private static final Pattern CALL =
        Pattern.compile("(?:int (\\w+) = )?register\\.(\\w+)\\((.*)\\); +// (-?\\w+)");
    private static final Pattern ROW = Pattern.compile("(?m)^\\| `(\\w+)\\((.*)\\)`( \\*)? \\| (.+) \\|$");

    public static void main(String[] args) throws IOException, ReflectiveOperationException {
        String text = Files.readString(Path.of("README.md"));
        example(text);
        rows(text);
        actions(text);
        constants(text);
        tests(text);
        c.end();
    }

    private static void example(String text) throws ReflectiveOperationException {
        List<String> lines = text.lines().dropWhile(line -> !line.equals("```java")).skip(1)
            .takeWhile(line -> !line.equals("```")).filter(line -> !line.isEmpty()).toList();
        c.holds("an object is made first", lines.get(0).equals("DairyShares register = new DairyShares();"));
        DairyShares register = new DairyShares();
        Map<String, Integer> names = new HashMap<>();
        for (String line : lines.subList(1, lines.size())) {
            Matcher m = CALL.matcher(line);
            c.holds("a call with its answer: " + line, m.matches());
            long answer = call(register, m.group(2), m.group(3), names);
            c.due(line, answer, number(m.group(4)));
            if (m.group(1) != null) {
                names.put(m.group(1), (int) answer);
            }
        }
        c.holds("the example goes through every group", lines.size() > 25);
    }

    private static long call(DairyShares register, String name, String list, Map<String, Integer> names)
            throws ReflectiveOperationException {
        String[] words = list.isEmpty() ? new String[0] : list.split(", ");
        Object[] values = new Object[words.length];
        for (int i = 0; i < words.length; i++) {
            values[i] = names.containsKey(words[i]) ? names.get(words[i]) : Integer.valueOf(words[i]);
        }
        Object answer = methodOf(name).invoke(register, values);
        return ((Number) answer).longValue();
    }

    private static Method methodOf(String name) throws NoSuchMethodException {
        for (Method method : DairyShares.class.getDeclaredMethods()) {
            if (method.getName().equals(name) && Modifier.isPublic(method.getModifiers())) {
                return method;
            }
        }
        throw new NoSuchMethodException(name);
    }

    private static long number(String word) throws ReflectiveOperationException {
        return word.matches("-?\\d+") ? Long.parseLong(word) : DairyShares.class.getField(word).getInt(null);
    }

    /** Each call has one row, that names as many arguments as it takes. */
    private static void rows(String text) throws ReflectiveOperationException {
        Map<String, Integer> arguments = new HashMap<>();
        Matcher m = ROW.matcher(text);
        while (m.find()) {
            int count = m.group(2).isEmpty() ? 0 : m.group(2).split(", ").length;
            c.holds("one row alone: " + m.group(1), arguments.put(m.group(1), count) == null);
            c.due("arguments of " + m.group(1), count, methodOf(m.group(1)).getParameterCount());
        }
        for (Method method : DairyShares.class.getDeclaredMethods()) {
            if (Modifier.isPublic(method.getModifiers())) {
                c.holds("a row for " + method.getName(), arguments.containsKey(method.getName()));
            }
        }
    }

    /** A call is marked as an action where the document calls it so, and names the document's errors. */
    private static void actions(String text) throws IOException {
        String document = Files.readString(Path.of("../shared/DOC.md"));
        Matcher m = ROW.matcher(text);
        while (m.find()) {
            String name = m.group(1);
            String promise = promiseOf(document, name);
            c.holds(name + " is an action", (m.group(3) != null) == promise.contains("This is an action."));
            for (String error : List.of("ILLEGAL_STATE", "CAPACITY_EXCEEDED", "NONE")) {
                c.holds(name + ": " + error, m.group(4).contains(error) == promise.contains(error + " if"));
            }
            c.holds(name + ": INVALID_ARGUMENT goes by its arguments",
                promise.contains("INVALID_ARGUMENT if") == !m.group(2).isEmpty());
        }
    }

    /** What the document says of a call, from its head to the next promise. */
    private static String promiseOf(String document, String name) {
        Matcher head = Pattern.compile("`(?:int|long) " + name + "\\([^)]*\\)`:").matcher(document);
        c.holds("the document promises " + name, head.find());
        int end = document.indexOf("## ", head.start());
        return document.substring(head.start(), end);
    }

    private static void constants(String text) throws ReflectiveOperationException {
        for (String name : List.of("INVALID_ARGUMENT", "ILLEGAL_STATE", "CAPACITY_EXCEEDED", "NONE")) {
            c.holds("the value of " + name, text.contains("| `" + name + "` | " + number(name) + " |"));
        }
    }

    private static void tests(String text) {
        String[] files = new File("src/test/java").list();
        c.holds("tests are found", files != null && files.length > 10);
        for (String file : files == null ? new String[0] : files) {
            String name = file.replace(".java", "");
            if (name.endsWith("Test") || name.endsWith("Edges") && !name.equals("Edges")) {
                c.holds("the page names " + name, text.contains("`" + name + "`"));
            }
        }
    }
}
