import java.io.IOException;
import java.nio.file.DirectoryStream;
import java.nio.file.Files;
import java.nio.file.Path;
import java.util.Map;
import java.util.Set;
import java.util.TreeMap;
import java.util.TreeSet;
import java.util.regex.Matcher;
import java.util.regex.Pattern;

/** Every promise of the document has tests of its edges that bear its number and its call, and no test another. */
public final class NamesTest {
    private static final Check CHECK = new Check("NamesTest");

    private static Map<String, Integer> promises() throws IOException {
        Map<String, Integer> tests = new TreeMap<>();
        Matcher heading = Pattern.compile("(?m)^## Promise (\\d+): (.*)$").matcher(Files.readString(Path.of("../shared/DOC.md")));
        while (heading.find()) {
            String call = heading.group(2).equals("A new object") ? "newObject" : heading.group(2).trim();
            tests.put(String.format("promise%02d_%s", Integer.parseInt(heading.group(1)), call), 0);
        }
        return tests;
    }

    public static void main(String[] args) throws IOException {
        Map<String, Integer> tests = promises();
        CHECK.due("promises of the document", tests.size(), 48);
        Set<String> names = new TreeSet<>();
        try (DirectoryStream<Path> files = Files.newDirectoryStream(Path.of("src/test/java"), "EdgesOf*Test.java")) {
            for (Path file : files) {
                Matcher test = Pattern.compile("static void ((promise\\d\\d_[a-zA-Z]+)_\\w+)\\(\\)").matcher(Files.readString(file));
                while (test.find()) {
                    CHECK.due("a second test named " + test.group(1), names.add(test.group(1)), true);
                    CHECK.due(test.group(1) + " is of a promise", tests.containsKey(test.group(2)), true);
                    tests.merge(test.group(2), 1, Integer::sum);
                }
            }
        }
        tests.forEach((promise, many) -> CHECK.due("tests of " + promise + ": two or more", many >= 2, true));
        System.out.println("NamesTest: " + names.size() + " tests of edges, of " + tests.size() + " promises");
        CHECK.finish();
    }
}
