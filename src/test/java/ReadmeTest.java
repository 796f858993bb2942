import java.io.IOException;
import java.lang.reflect.Method;
import java.lang.reflect.Modifier;
import java.nio.file.DirectoryStream;
import java.nio.file.Files;
import java.nio.file.Path;
import java.util.List;
import java.util.TreeSet;
import java.util.regex.Matcher;
import java.util.regex.Pattern;

/** What README.md says is so: its examples answer as written, and its table names each test that .ci/run runs. */
public final class ReadmeTest {
    private static final Pattern CALL = Pattern.compile("x\\.(\\w+)\\(([-0-9, ]*)\\); +// (-?\\d+|true|false)\\b.*");
    private static final Pattern PUT = Pattern.compile("put\\(x, \"([^\"]*)\"\\);");
    private static final Pattern ROW = Pattern.compile("\\| (\\w+Test) \\| .+ \\|");

    public static void main(String[] args) throws Exception {
        List<String> page = Files.readAllLines(Path.of("README.md"));
        examples(joined(page));
        allCalls(String.join("\n", page));
        table(page);
        Check.close("ReadmeTest");
    }

    /** A text that goes on over lines becomes one line. */
    private static List<String> joined(List<String> page) {
        String text = String.join("\n", page);
        return List.of(text.replaceAll("\"\\n +\\+ \"", "").split("\n"));
    }

    private static void examples(List<String> page) throws Exception {
        List<String> own = Files.readAllLines(Path.of("src/test/java/ReadmeTest.java"));
        LakeLearns x = new LakeLearns();
        boolean inside = false;
        int helper = -1;
        for (String line : page) {
            if (line.startsWith("```")) {
                inside = line.equals("```java");
            } else if (inside && !line.isEmpty()) {
                Matcher call = CALL.matcher(line);
                Matcher put = PUT.matcher(line);
                if (call.matches()) {
                    Check.due("README.md: " + line, answer(x, call), call.group(3));
                } else if (put.matches()) {
                    put(x, plain(put.group(1)));
                } else if (!line.equals("LakeLearns x = new LakeLearns();")) {
                    int found = indexBehind(own, line, helper);
                    Check.due("README.md's helper stands in this test: " + line, found > helper, true);
                    helper = found;
                }
            }
        }
    }

    private static String answer(LakeLearns x, Matcher call) throws Exception {
        String[] told = call.group(2).isEmpty() ? new String[0] : call.group(2).split(", ");
        Object[] numbers = new Object[told.length];
        Class<?>[] types = new Class<?>[told.length];
        for (int i = 0; i < told.length; i++) {
            numbers[i] = Integer.parseInt(told[i]);
            types[i] = int.class;
        }
        return LakeLearns.class.getMethod(call.group(1), types).invoke(x, numbers).toString();
    }

    /** A text as Java reads it: \0 to \3 are bytes. */
    private static String plain(String written) {
        String text = written;
        for (int i = 0; i < 4; i++) {
            text = text.replace("\\" + i, "" + (char) i);
        }
        return text;
    }

    private static int indexBehind(List<String> own, String line, int from) {
        for (int i = from + 1; i < own.size(); i++) {
            if (own.get(i).trim().replace("private ", "").equals(line.trim())) {
                return i;
            }
        }
        return -1;
    }

    private static void allCalls(String page) {
        for (Method m : LakeLearns.class.getDeclaredMethods()) {
            if (Modifier.isPublic(m.getModifiers())) {
                Check.due("README.md uses " + m.getName(), page.contains("x." + m.getName() + "("), true);
            }
        }
    }

    /** .ci/run runs each *Test of this directory: no main method stands in another file. */
    private static void table(List<String> page) throws IOException {
        TreeSet<String> named = new TreeSet<>();
        for (String line : page) {
            Matcher row = ROW.matcher(line);
            if (row.matches()) {
                Check.due(row.group(1) + " is named once", named.add(row.group(1)), true);
            }
        }
        TreeSet<String> tests = new TreeSet<>();
        try (DirectoryStream<Path> files = Files.newDirectoryStream(Path.of("src/test/java"))) {
            for (Path file : files) {
                String name = file.getFileName().toString().replace(".java", "");
                boolean main = Files.readString(file).contains("static void main(");
                Check.due(name + " is a test by its name", name.endsWith("Test"), main);
                if (main) {
                    tests.add(name);
                }
            }
        }
        Check.due("the tests that README.md names", named.toString(), tests.toString());
        Check.due(".ci/run can be run", Files.isExecutable(Path.of(".ci/run")), true);
    }

    private static void put(LakeLearns x, String text) {
        x.end(0);
        for (int i = 0; i < text.length(); i += 20) {
            x.feed(four(text, i), four(text, i + 4), four(text, i + 8), four(text, i + 12), four(text, i + 16));
        }
        x.end(text.length());
    }

    private static int four(String text, int at) {
        int number = 0;
        for (int i = at; i < at + 4; i++) {
            number = number << 8 | (i < text.length() ? text.charAt(i) & 255 : 0);
        }
        return number;
    }
}
