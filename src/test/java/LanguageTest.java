import java.io.IOException;
import java.nio.file.Files;
import java.nio.file.Path;
import java.util.HashSet;
import java.util.Set;
import java.util.regex.Matcher;
import java.util.regex.Pattern;

/** The rules of LANGUAGE.md that can be read off the text of the class. */
public final class LanguageTest {
    private static final Check c = new Check("LanguageTest");

    private static final String[] WORDS = {
        "package", "import", "throw", "throws", "try", "catch", "finally", "synchronized", "assert", "instanceof",
        "lambda", "equals", "hashCode", "toString", "volatile", "transient", "native", "protected", "Object",
        "float", "double", "Random", "Thread", "nanoTime", "currentTimeMillis", "Exception", "Error"
    };
    private static final Set<String> LIBRARY = Set.of("Math.max", "Math.min", "Math.floorDiv", "System.arraycopy");

    public static void main(String[] args) throws IOException {
        String text = Files.readString(Path.of("src/main/java/DairyShares.java"));
        String code = text.replaceAll("(?s)/\\*.*?\\*/", " ").replaceAll("//[^\\n]*", " ");
        for (String word : WORDS) {
            c.holds("no '" + word + "'", !Pattern.compile("\\b" + word + "\\b").matcher(code).find());
        }
        c.holds("no arrow", !code.contains("->"));
        c.holds("no method reference", !code.contains("::"));
        c.holds("no annotation", !code.contains("@"));
        c.holds("signs 1 to 127", text.chars().allMatch(sign -> sign >= 1 && sign <= 127));
        Matcher calls = Pattern.compile("\\b(Math|System|Integer|Long|Arrays|String)\\.\\w+").matcher(code);
        while (calls.find()) {
            c.holds("library: " + calls.group(), LIBRARY.contains(calls.group()));
        }
        c.holds("twelve classes at most", count(code, "\\bclass\\b") <= 12);
        // A row that is made while calls run would be counted 512 times.
        c.holds("all objects are made by fields",
            code.lines().filter(line -> line.contains("new ")).allMatch(line -> line.matches(".* = new [^=]*;")
                && line.matches("\\s*(private )?(final )?\\w+(\\[\\])? \\w+ = new .*")));
        shortMethods(code);
        noMethodOfAClassInsideBearsAPublicName(code);
        c.end();
    }

    private static int count(String code, String pattern) {
        Matcher m = Pattern.compile(pattern).matcher(code);
        int n = 0;
        while (m.find()) {
            n++;
        }
        return n;
    }

    private static void shortMethods(String code) {
        Matcher m = Pattern.compile("(?m)^( +)[\\w\\[\\] ]+\\w+\\(([^)]*)\\) \\{\\n(?s)(.*?)\\n\\1\\}").matcher(code);
        int methods = 0;
        while (m.find()) {
            methods++;
            String head = m.group().strip().lines().findFirst().orElse("");
            c.holds("short: " + head, m.group(3).lines().count() <= 40);
            c.holds("seven parameters at most: " + head, m.group(2).split(",").length <= 7);
        }
        c.holds("the methods were found", methods > 60);
    }

    private static void noMethodOfAClassInsideBearsAPublicName(String code) {
        Set<String> open = new HashSet<>();
        Matcher m = Pattern.compile("(?m)^    public (?:int|long) (\\w+)\\(").matcher(code);
        while (m.find()) {
            open.add(m.group(1));
        }
        c.due("public methods", open.size(), 38);
        Matcher inside = Pattern.compile("(?m)^        (?:int|long|void|boolean) (\\w+)\\(").matcher(code);
        while (inside.find()) {
            c.holds("another name: " + inside.group(1), !open.contains(inside.group(1)));
        }
    }
}
