import java.lang.reflect.Constructor;
import java.lang.reflect.Field;
import java.lang.reflect.Method;
import java.lang.reflect.Modifier;
import java.nio.file.Files;
import java.nio.file.Path;
import java.util.ArrayList;
import java.util.List;
import java.util.Map;
import java.util.Set;
import java.util.TreeMap;
import java.util.TreeSet;
import java.util.regex.Matcher;
import java.util.regex.Pattern;

/** What of LANGUAGE.md a machine can see: the face, words that may not stand, sizes, and that calls make nothing. */
public final class RulesTest {
    private static final Check CHECK = new Check("RulesTest");
    private static final String FACE = "feed(5) end(1) set(0) fault(1) has(1) letter(2) named(0) point(2) at(3) child(2) "
            + "far(2) net(2) above(2) loose(2) most(1) seek(3) found(1) pruned(2) proves(4) nth(4) within(4) remote(4) "
            + "centers(2) center(2) pair(1) thin(1) link(2) group(2) groups(1) comes(4) goes(2) anew(1) see(0) fits(1) "
            + "tells(1) add(3) drop(1) move(4) by(1) lay(0) chance(1) undo(0) seed(1) image(0) octet(1) on(0) status(1)";
    private static final Set<String> FLAGS = Set.of("end", "drop", "move", "by", "undo", "seed", "on");

    private static void face() {
        Set<String> due = new TreeSet<>(List.of(FACE.split(" ")));
        Set<String> names = new TreeSet<>();
        due.forEach(d -> names.add(d.substring(0, d.indexOf('('))));
        Set<String> got = new TreeSet<>();
        for (Method m : ScaleNets.class.getDeclaredMethods()) {
            if (Modifier.isPrivate(m.getModifiers())) {
                CHECK.due("a private method bears the name of a public one: " + m.getName(), names.contains(m.getName()), false);
            } else {
                CHECK.due("public, not static: " + m.getName(), m.getModifiers(), Modifier.PUBLIC);
                CHECK.due("type of " + m.getName(), m.getReturnType() == boolean.class, FLAGS.contains(m.getName()));
                got.add(m.getName() + "(" + m.getParameterCount() + ")");
            }
        }
        CHECK.same("the face", got.toString(), due.toString());
        CHECK.due("final and public", ScaleNets.class.getModifiers(), Modifier.PUBLIC | Modifier.FINAL);
        for (Constructor<?> c : ScaleNets.class.getDeclaredConstructors()) {
            CHECK.due("the constructor", c.getModifiers() == Modifier.PUBLIC && c.getParameterCount() == 0, true);
        }
        for (Field f : ScaleNets.class.getDeclaredFields()) {
            CHECK.due("private: " + f.getName(), Modifier.isPrivate(f.getModifiers()), !f.getName().equals("NONE"));
        }
        CHECK.due("NONE", ScaleNets.NONE, -1);
        CHECK.due("at most twelve classes", ScaleNets.class.getDeclaredClasses().length <= 11, true);
        for (Class<?> c : ScaleNets.class.getDeclaredClasses()) {
            nested(c, names);
        }
    }

    private static void nested(Class<?> c, Set<String> names) {
        int own = 0;
        CHECK.due("static: " + c.getName(), Modifier.isStatic(c.getModifiers()), true);
        for (Field f : c.getDeclaredFields()) {
            own += Modifier.isStatic(f.getModifiers()) ? 0 : 1;
            CHECK.due("static and not final: " + f, Modifier.isStatic(f.getModifiers()) && !Modifier.isFinal(f.getModifiers()), false);
        }
        CHECK.due("at most twenty fields: " + c.getName(), own <= 20, true);
        for (Method m : c.getDeclaredMethods()) {
            CHECK.due("parameters of " + m.getName(), m.getParameterCount() <= 7, true);
            CHECK.due("the name of a public one: " + m, names.contains(m.getName()), false);
        }
    }

    private static void words() throws java.io.IOException {
        String source = Files.readString(Path.of("src/main/java/ScaleNets.java"));
        String bare = bareSource();
        String[] none = {"\\bthrow\\b", "\\btry\\b", "\\bcatch\\b", "\\bsynchronized\\b", "\\bassert\\b", "->", "::",
            "\\bthrows\\b", "\\bpackage\\b", "\\bstatic \\{", "Exact\\b", "\\bequals\\b", "\\bhashCode\\b", "\\btoString\\b",
            "\\bThread\\b", "\\bRandom\\b", "\\bnanoTime\\b", "\\bcurrentTimeMillis\\b", "\\bObject\\b", "\\bvar\\b", "\\[\\]\\["};
        for (String word : none) {
            CHECK.due("found " + word, Pattern.compile(word).matcher(bare).find(), false);
        }
        List<String> imports = new ArrayList<>();
        Matcher m = Pattern.compile("import ([^;]*);").matcher(bare);
        while (m.find()) {
            imports.add(m.group(1));
        }
        CHECK.same("imports", imports.toString(), "[java.util.Arrays]");
        Set<String> library = Set.of("Integer.bitCount", "Math.abs", "Math.min", "Math.max", "Arrays.fill", "System.arraycopy");
        m = Pattern.compile("\\b(Integer|Long|Math|Arrays|System|String|Character|List)\\.\\w+").matcher(bare.replaceAll("import [^;]*;", ""));
        while (m.find()) {
            CHECK.due("the library's " + m.group(), library.contains(m.group()), true);
        }
        CHECK.due("signs 1 to 127 alone", source.chars().allMatch(s -> s > 0 && s < 128), true);
        int length = 0;
        for (String line : source.split("\n")) {
            length = line.matches(" +\\}") && line.length() <= 9 ? 0 : length + 1;
            CHECK.due("a method of over sixty lines at " + line, length > 75, false);
        }
    }

    /** Of each method, by its name, the methods of the file that its body calls; none of a name calls itself. */
    private static Map<String, Set<String>> callsOfMethods(String bare) {
        Map<String, String> bodies = new TreeMap<>();
        Matcher m = Pattern.compile("(?ms)^( +)(?:public |private |static |final )*(?:int|long|boolean|void) (\\w+)\\([^)]*\\) \\{$(.*?)^\\1\\}$")
                .matcher(bare);
        while (m.find()) {
            bodies.merge(m.group(2), m.group(3), String::concat);
        }
        Map<String, Set<String>> calls = new TreeMap<>();
        for (Map.Entry<String, String> e : bodies.entrySet()) {
            Set<String> called = new TreeSet<>();
            Matcher call = Pattern.compile("\\b(\\w+)\\(").matcher(e.getValue());
            while (call.find()) {
                if (bodies.containsKey(call.group(1))) {
                    called.add(call.group(1));
                }
            }
            calls.put(e.getKey(), called);
        }
        return calls;
    }

    private static int depth(Map<String, Set<String>> calls, String name, int open) {
        if (open > 20) {
            return open;
        }
        int deepest = 1;
        for (String called : calls.get(name)) {
            deepest = Math.max(deepest, 1 + depth(calls, called, open + 1));
        }
        return deepest;
    }

    /** No recursion is needed, so the calls that stand open at once are few. */
    private static void depths() throws java.io.IOException {
        Map<String, Set<String>> calls = callsOfMethods(bareSource());
        CHECK.due("methods of the file are found", calls.size() > 120, true);
        for (String name : calls.keySet()) {
            int deep = depth(calls, name, 0);
            CHECK.due("at most eight calls deep: " + name + " " + deep, deep <= 8, true);
        }
    }

    private static String bareSource() throws java.io.IOException {
        return Files.readString(Path.of("src/main/java/ScaleNets.java"))
                .replaceAll("(?s)/\\*.*?\\*/", "").replaceAll("//[^\n]*", "").replaceAll("\"[^\"\n]*\"", "\"\"");
    }

    private static int all(ScaleNets x, int i) {
        int sum = x.has(i % 7) + x.letter(i % 40, 0) + x.point(i % 40, i % 7) + x.at(i, i, i) + x.child(0, i % 9);
        sum += x.far(0, i % 40) + x.net(i % 11, -1) + x.above(i % 40, 3) + x.loose(i % 11, i % 3) + x.most(0);
        sum += x.seek(i, 9, 200) + x.found(3) + x.pruned(0, 3) + x.proves(i, 9, 200, 3) + x.nth(i, 1, 2, 3);
        sum += x.within(i, i, i, 100) + x.remote(i, 9, 200, 0) + x.centers(3, 2) + x.center(i % 40, 4) + x.pair(i % 6);
        sum += x.thin(i % 40) + x.link(i % 40, 2) + x.group(i % 40, 50) + x.groups(60) + x.comes(i, i, 1, 1);
        sum += x.goes(i % 40, 0) + x.anew(1) + x.fits(-1) + x.tells(2) + x.add(i, 7, i) + (x.drop(i % 40) ? 1 : 0);
        sum += (x.move(i % 40, 8, i, 8) ? 1 : 0) + (x.by(i % 3) ? 1 : 0) + x.lay() + x.chance(1 + i % 40);
        sum += (x.undo() ? 1 : 0) + (x.seed(i) ? 1 : 0) + x.image() + x.octet(5) + x.status(2);
        return sum + x.feed(0x73657420, 0x62792073, 0x756d3b20, i, i) + (x.end(i % 21) ? 1 : 0) + tapeCall(x, i);
    }

    private static int tapeCall(ScaleNets x, int i) {
        switch (i % 4) {
            case 0: return i % 16 == 0 ? x.set() : x.fault(0);
            case 1: return x.see();
            case 2: return x.named();
            default: return x.on() ? 1 : 0;
        }
    }

    /** All calls of a run live in one room, so calls use the rows that the constructor made. */
    private static void room() {
        com.sun.management.ThreadMXBean bean =
                (com.sun.management.ThreadMXBean) java.lang.management.ManagementFactory.getThreadMXBean();
        long id = Thread.currentThread().getId();
        ScaleNets x = Check.of(Check.FOUR);
        int sum = all(x, 0);
        bean.getThreadAllocatedBytes(id);
        long ahead = bean.getThreadAllocatedBytes(id);
        for (int i = 0; i < 2000; i++) {
            sum += all(x, i % 256);
        }
        long made = bean.getThreadAllocatedBytes(id) - ahead;
        System.out.println("RulesTest: some 80000 calls made " + made + " bytes (" + sum + ")");
        CHECK.due("calls make objects", made < 20_000, true);
        ahead = bean.getThreadAllocatedBytes(id);
        x = new ScaleNets();
        made = bean.getThreadAllocatedBytes(id) - ahead;
        System.out.println("RulesTest: an object is made of " + made + " bytes (" + x.has(0) + ")");
        CHECK.due("an object has some ten thousand elements at the most", made < 60_000, true);
    }

    public static void main(String[] args) throws java.io.IOException {
        face();
        words();
        depths();
        room();
        CHECK.finish();
    }
}
