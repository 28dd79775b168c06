import java.io.IOException;
import java.nio.file.DirectoryStream;
import java.nio.file.Files;
import java.nio.file.Path;
import java.util.TreeSet;
import java.util.regex.Matcher;
import java.util.regex.Pattern;

/** "The calls that README.md shows answer as README.md says": by the class, and by the plain telling of the document. */
public final class ReadmeTest {
    private static final Pattern BLOCK = Pattern.compile("(?ms)^```java\n(.*?)^```$");
    private static final Pattern CALL = Pattern.compile("harp\\.(\\w+)\\(([^)]*)\\);\\s+// (-?\\d+|[A-Z]+): .+");
    private static final String NEW = "BorderHarp harp = new BorderHarp();";

    private BorderHarp harp = null;
    private PlainHarp plain = null;
    private final TreeSet<String> shown = new TreeSet<>();

    private ReadmeTest() {
    }

    public static void main(String[] args) throws IOException {
        String readme = Files.readString(Path.of("README.md"));
        ReadmeTest test = new ReadmeTest();
        test.examples(readme);
        test.everyCallIsShown();
        testsAreTold(readme);
        Due.end();
    }

    private void examples(String readme) {
        Matcher blocks = BLOCK.matcher(readme);
        while (blocks.find()) {
            for (String line : blocks.group(1).split("\n")) {
                example(line);
            }
        }
    }

    private void example(String line) {
        if (line.equals(NEW)) {
            harp = new BorderHarp();
            plain = new PlainHarp();
            return;
        }
        Matcher call = CALL.matcher(line);
        boolean told = harp != null && call.matches();
        Due.due("README.md tells a call and its answer by '" + line + "'", told ? 1 : 0, 1);
        if (told) {
            String name = call.group(1);
            long[] a = numbers(call.group(2));
            long want = number(call.group(3));
            Due.due("README.md: " + line, Calls.answer(harp, name, a), want);
            Due.due("plainly, README.md: " + line, plain.call(name, a), want);
            shown.add(name);
        }
    }

    private static long[] numbers(String told) {
        String[] parts = told.isEmpty() ? new String[0] : told.split(", ");
        long[] a = new long[parts.length];
        for (int i = 0; i < a.length; i++) {
            a[i] = number(parts[i]);
        }
        return a;
    }

    private static long number(String told) {
        switch (told) {
            case "true": return 1;
            case "false": return 0;
            case "NONE": return BorderHarp.NONE;
            case "BAD": return BorderHarp.BAD;
            case "NO": return BorderHarp.NO;
            case "FULL": return BorderHarp.FULL;
            default: return Long.decode(told.replace("L", ""));
        }
    }

    private void everyCallIsShown() {
        for (var method : BorderHarp.class.getMethods()) {
            if (method.getDeclaringClass() == BorderHarp.class) {
                Due.due("README.md shows " + method.getName(), shown.contains(method.getName()) ? 1 : 0, 1);
            }
        }
    }

    /** Each file of the tests is told in README.md, and each test that it names is there. */
    private static void testsAreTold(String readme) throws IOException {
        TreeSet<String> files = new TreeSet<>();
        try (DirectoryStream<Path> sources = Files.newDirectoryStream(Path.of("src/test/java"), "*.java")) {
            for (Path source : sources) {
                files.add(source.getFileName().toString().replace(".java", ""));
            }
        }
        for (String file : files) {
            Due.due("README.md tells of " + file, readme.contains("`" + file + "`") ? 1 : 0, 1);
        }
        Matcher names = Pattern.compile("\\b\\w+Test\\b").matcher(readme);
        while (names.find()) {
            Due.due("there is " + names.group(), files.contains(names.group()) ? 1 : 0, 1);
        }
    }
}
