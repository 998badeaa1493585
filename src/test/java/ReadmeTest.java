import java.io.IOException;
import java.nio.charset.StandardCharsets;
import java.nio.file.Files;
import java.nio.file.Path;
import java.util.ArrayList;
import java.util.Comparator;
import java.util.List;
import java.util.Set;
import java.util.TreeSet;
import java.util.concurrent.TimeUnit;
import java.util.regex.Matcher;
import java.util.regex.Pattern;
import java.util.stream.Stream;

/** What README.md shows is tried as it is written there: texts, faults, the program with what it prints, commands. */
public final class ReadmeTest {
    private static final Check CHECK = new Check("ReadmeTest");
    private static final String ALL_TESTS = ".ci/run\n";

    private record Block(String kind, String text) {
    }

    private static List<Block> blocks(String page) {
        List<Block> blocks = new ArrayList<>();
        Matcher m = Pattern.compile("(?ms)^```(\\w*)\\n(.*?)^```$").matcher(page);
        while (m.find()) {
            blocks.add(new Block(m.group(1), m.group(2)));
        }
        return blocks;
    }

    /** Rows of the table that has this heading: the cells, without the marks of code. */
    private static List<String[]> table(String page, String heading) {
        List<String[]> rows = new ArrayList<>();
        int at = page.indexOf("\n" + heading + "\n");
        CHECK.due("there is a table " + heading, at >= 0, true);
        String[] lines = at < 0 ? new String[0] : page.substring(at + 1).split("\n");
        for (int i = 2; i < lines.length && lines[i].startsWith("|"); i++) {
            String[] cells = lines[i].substring(1).split("\\|");
            for (int k = 0; k < cells.length; k++) {
                cells[k] = cells[k].trim().replaceAll("^`(.*)`$", "$1");
            }
            rows.add(cells);
        }
        return rows;
    }

    private static void faults(String page) {
        Set<Integer> kinds = new TreeSet<>();
        for (String[] row : table(page, "| text | fault(0) | fault(1) | why |")) {
            ScaleNets x = new ScaleNets();
            Check.tape(x, row[0]);
            CHECK.due("set() of " + row[0], x.set(), -1);
            CHECK.due("fault(0) of " + row[0], x.fault(0), Integer.parseInt(row[1]));
            CHECK.due("fault(1) of " + row[0], x.fault(1), Integer.parseInt(row[2]));
            kinds.add(x.fault(0));
        }
        CHECK.same("the faults that are shown", kinds.toString(), "[1, 2, 3, 4]");
    }

    /** Each call that the table names is refused, of a new object, and counted where the table says. */
    private static void refusals(String page) {
        int calls = 0;
        for (String[] row : table(page, "| status(..) | counts what was refused of |")) {
            for (String call : row[1].replaceAll("`", "").split(", ")) {
                ScaleNets x = new ScaleNets();
                refuse(x, call);
                CHECK.due(call + " counted at status(" + row[0] + ")", x.status(Integer.parseInt(row[0])), 1);
                calls++;
            }
        }
        CHECK.due("calls that can be refused", calls, 13);
    }

    private static void refuse(ScaleNets x, String call) {
        switch (call) {
            case "feed":
                for (int i = 0; i < 81; i++) {
                    x.feed(0, 0, 0, 0, 0);
                }
                break;
            case "end": x.end(-1); break;
            case "set": x.set(); break;
            case "see": x.see(); break;
            case "add": x.add(1, 1, 1); break;
            case "drop": x.drop(0); break;
            case "move": x.move(0, 1, 1, 1); break;
            case "by": x.by(1); break;
            case "lay": x.lay(); break;
            case "chance": x.chance(1); break;
            case "undo": x.undo(); break;
            case "seed": x.seed(-1); break;
            case "on": x.on(); break;
            default: CHECK.due("a call that can be refused: " + call, false, true);
        }
    }

    private static void tests(String page) throws IOException {
        Set<String> named = new TreeSet<>();
        table(page, "| test | what it looks at |").forEach(row -> named.add(row[0]));
        Set<String> there = new TreeSet<>();
        try (Stream<Path> files = Files.list(Path.of("src/test/java"))) {
            files.map(f -> f.getFileName().toString()).filter(f -> f.endsWith("Test.java")).forEach(f -> there.add(f.replace(".java", "")));
        }
        CHECK.same("the table of tests", named.toString(), there.toString());
    }

    /** A copy of the project beside ../shared, in which the commands of the page can be run. */
    private static Path copyOfProject(Path room) throws IOException {
        Path copy = room.resolve("main");
        try (Stream<Path> files = Files.walk(Path.of("src"))) {
            for (Path file : (Iterable<Path>) files::iterator) {
                Files.createDirectories(copy.resolve(file).getParent());
                Files.copy(file, copy.resolve(file));
            }
        }
        Files.createSymbolicLink(room.resolve("shared"), Path.of("../shared").toRealPath());
        return copy;
    }

    private static String run(Path where, String commands) throws IOException, InterruptedException {
        Path out = where.resolve("printed");
        Process p = new ProcessBuilder("sh", "-e", "-c", commands).directory(where.toFile()).redirectErrorStream(true)
                .redirectOutput(out.toFile()).start();
        boolean ended = p.waitFor(5, TimeUnit.MINUTES);
        if (!ended) {
            p.destroyForcibly();
        }
        String printed = Files.readString(out);
        CHECK.same(commands, ended ? "exit " + p.exitValue() : "no end, " + printed, "exit 0");
        return printed;
    }

    private static void tryAll(List<Block> blocks, Path project) throws IOException, InterruptedException {
        String printed = "";
        Set<String> kinds = new TreeSet<>();
        for (Block block : blocks) {
            kinds.add(block.kind());
            switch (block.kind()) {
                case "set":
                    ScaleNets x = Check.of(block.text());
                    CHECK.due("points of the text of a set", x.has(0), 4);
                    break;
                case "java":
                    Matcher name = Pattern.compile("public final class (\\w+)").matcher(block.text());
                    CHECK.due("a program has a name", name.find(), true);
                    Files.writeString(project.resolve(name.group(1) + ".java"), block.text());
                    break;
                case "sh":
                    // This very test is a part of all tests, so these are not run once more.
                    printed = block.text().equals(ALL_TESTS) ? "" : run(project, block.text());
                    break;
                case "text":
                    CHECK.same("what is printed", printed, block.text());
                    break;
                default:
                    CHECK.due("a block that can't be tried: " + block.kind(), false, true);
            }
        }
        CHECK.same("kinds of blocks", kinds.toString(), "[java, set, sh, text]");
        CHECK.due(".ci/run can be run", Files.isExecutable(Path.of(".ci/run")), true);
        CHECK.due(".ci/run is shown", blocks.contains(new Block("sh", ALL_TESTS)), true);
    }

    private static void remove(Path room) throws IOException {
        try (Stream<Path> files = Files.walk(room)) {
            for (Path file : (Iterable<Path>) files.sorted(Comparator.reverseOrder())::iterator) {
                Files.delete(file);
            }
        }
    }

    public static void main(String[] args) throws IOException, InterruptedException {
        String page = Files.readString(Path.of("README.md"), StandardCharsets.UTF_8);
        faults(page);
        refusals(page);
        tests(page);
        Path room = Files.createTempDirectory("readme");
        try {
            tryAll(blocks(page), copyOfProject(room));
        } finally {
            remove(room);
        }
        CHECK.finish();
    }
}
