import java.io.IOException;
import java.nio.file.DirectoryStream;
import java.nio.file.Files;
import java.nio.file.Path;
import java.util.Map;
import java.util.Set;
import java.util.TreeMap;
import java.util.TreeSet;
import java.util.regex.Matcher;
import java.util.regex.Pattern;

/** Every promise of the document has tests that bear its number and its call, and no test another: of its edges, and of what it leaves. */
public final class NamesTest {
    private static final Check CHECK = new Check("NamesTest");
    private static final Set<String> NAMES = new TreeSet<>();

    private static Map<String, Integer> promises() throws IOException {
        Map<String, Integer> tests = new TreeMap<>();
        Matcher heading = Pattern.compile("(?m)^## Promise (\\d+): (.*)$").matcher(Files.readString(Path.of("../shared/DOC.md")));
        while (heading.find()) {
            String call = heading.group(2).equals("A new object") ? "newObject" : heading.group(2).trim();
            tests.put(String.format("promise%02d_%s", Integer.parseInt(heading.group(1)), call), 0);
        }
        CHECK.due("promises of the document", tests.size(), 48);
        return tests;
    }

    /** How many tests each promise has in these files, none of which bears a name of its own twice. */
    private static Map<String, Integer> testsIn(String files) throws IOException {
        Map<String, Integer> tests = promises();
        try (DirectoryStream<Path> found = Files.newDirectoryStream(Path.of("src/test/java"), files)) {
            for (Path file : found) {
                Matcher test = Pattern.compile("static void ((promise\\d\\d_[a-zA-Z]+)_\\w+)\\(\\)").matcher(Files.readString(file));
                while (test.find()) {
                    CHECK.due("a second test named " + test.group(1), NAMES.add(test.group(1)), true);
                    CHECK.due(test.group(1) + " is of a promise", tests.containsKey(test.group(2)), true);
                    tests.merge(test.group(2), 1, Integer::sum);
                }
            }
        }
        return tests;
    }

    private static void ask(String files, int least) throws IOException {
        int ahead = NAMES.size();
        testsIn(files).forEach((promise, many) -> CHECK.due("tests of " + promise + " in " + files + ": " + least + " or more",
                many >= least, true));
        System.out.println("NamesTest: " + (NAMES.size() - ahead) + " tests in " + files);
    }

    public static void main(String[] args) throws IOException {
        ask("EdgesOf*Test.java", 2);
        ask("LeavesBehindTest.java", 1);
        ask("LaterCallsTest.java", 0);
        CHECK.finish();
    }
}
