import java.lang.reflect.Method;
import java.util.ArrayList;
import java.util.Comparator;
import java.util.List;
import java.util.Random;

/** Long runs of calls, most of them likely ones, answered by the class and by Model alike. */
public final class ModelTest {
    private static final int RUNS = 700;
    private static final int CALLS = 512;
    private static final int[] WILD = {-1, -2, 40, 41, 255, 256, 999, 1000, Integer.MAX_VALUE, Integer.MIN_VALUE, 11, 12};

    private final Random random;
    private final int run;
    private final ScaleNets nets = new ScaleNets();
    private final Model model = new Model();
    private final List<String> told = new ArrayList<>();
    private final List<Method> methods;
    private final int spread;
    private int calls = 0;

    private ModelTest(int run, List<Method> methods) {
        this.run = run;
        this.methods = methods;
        random = new Random(run);
        spread = new int[] {256, 256, 40, 12, 5}[random.nextInt(5)];
    }

    private int call(String name, int... args) {
        calls++;
        for (Method m : methods) {
            if (m.getName().equals(name)) {
                return call(m, args);
            }
        }
        throw new IllegalStateException(name);
    }

    private int call(Method m, int... args) {
        try {
            Object[] boxed = new Object[args.length];
            for (int i = 0; i < args.length; i++) {
                boxed[i] = args[i];
            }
            Object got = m.invoke(nets, boxed);
            Object want = Model.class.getMethod(m.getName(), m.getParameterTypes()).invoke(model, boxed);
            told.add(m.getName() + java.util.Arrays.toString(args) + " -> " + got);
            if (!got.equals(want)) {
                throw new IllegalStateException("run " + run + ": " + told.get(told.size() - 1) + ", due is " + want
                        + "\n  behind " + told.subList(Math.max(0, told.size() - 40), told.size()));
            }
            return got instanceof Boolean ? ((Boolean) got ? 1 : 0) : (Integer) got;
        } catch (ReflectiveOperationException e) {
            throw new IllegalStateException("run " + run + ": " + m.getName() + java.util.Arrays.toString(args)
                    + " behind " + told, e);
        }
    }

    private void feedAll(List<Integer> bytes) {
        for (int i = 0; i < bytes.size() || i == 0; i += 20) {
            int[] five = new int[5];
            for (int j = 0; j < 20; j++) {
                int o = i + j < bytes.size() ? bytes.get(i + j) : 32;
                five[j / 4] = five[j / 4] << 8 | o;
            }
            call("feed", five);
        }
        call("end", bytes.size());
    }

    private int coordinate() {
        return random.nextInt(60) == 0 ? WILD[random.nextInt(WILD.length)] : random.nextInt(spread);
    }

    private String name(int i) {
        StringBuilder b = new StringBuilder();
        for (int n = i + 1; n > 0; n /= 5) {
            b.append((char) ('a' + 7 * (n % 5) % 26));
        }
        return b.toString();
    }

    private String text(int n) {
        String[] measures = {"sum", "most", "bits"};
        StringBuilder b = new StringBuilder(blank(0) + "set" + blank(1) + "by" + blank(1) + measures[random.nextInt(3)]
                + blank(0) + ";");
        for (int i = 0; i < n; i++) {
            b.append(blank(0)).append("point").append(blank(1)).append(name(i)).append(blank(1)).append("at");
            for (int j = 0; j < 3; j++) {
                b.append(blank(1)).append(random.nextInt(spread));
            }
            b.append(blank(0)).append(';');
        }
        return b.append(blank(0)).toString();
    }

    private String blank(int least) {
        String[] blanks = {" ", "\n", "  ", " \n "};
        return random.nextInt(6) == 0 ? blanks[random.nextInt(4)] : least == 1 ? " " : "";
    }

    private void tellSet(int n, boolean spoiled) {
        String text = text(n);
        if (spoiled) {
            int at = random.nextInt(text.length() + 1);
            String[] put = {"", "a", "7", ";", " ", "\n", "at", "set", "point", "256", "A", "\u00ff", "sum "};
            int cut = random.nextInt(3) == 0 ? text.length() : Math.min(text.length(), at + random.nextInt(3));
            text = text.substring(0, at) + put[random.nextInt(put.length)] + text.substring(cut);
        }
        List<Integer> bytes = new ArrayList<>();
        text.chars().limit(1600).forEach(bytes::add);
        call("end", 0);
        feedAll(bytes);
        call("set");
        call("fault", 0);
        call("fault", 1);
    }

    private void proveLatest() {
        int x = coordinate();
        int y = coordinate();
        int z = coordinate();
        call("end", 0);
        if (call("seek", x, y, z) < 0) {
            return;
        }
        List<Integer> bytes = new ArrayList<>();
        int rows = call("found", 2);
        for (int k = 0; k < rows; k++) {
            bytes.add(call("pruned", k, 0));
            bytes.add(call("pruned", k, 1));
            call("pruned", k, 2);
            call("pruned", k, 3);
        }
        if (!bytes.isEmpty() && random.nextInt(3) == 0) {
            int i = random.nextInt(bytes.size());
            bytes.set(i, Math.max(0, bytes.get(i) + random.nextInt(3) - 1));
        }
        if (!bytes.isEmpty() && random.nextInt(6) == 0) {
            bytes.remove(random.nextInt(bytes.size()));
        }
        feedAll(bytes);
        call("proves", x, y, z, call("found", 0) + (random.nextInt(4) == 0 ? random.nextInt(5) - 2 : 0));
    }

    private void seeRows() {
        List<Integer> bytes = new ArrayList<>();
        int rows = random.nextInt(12) == 0 ? random.nextInt(15) : 1 + random.nextInt(2);
        for (int i = 0; i < rows; i++) {
            int p = call("net", 0, random.nextInt(Math.max(1, call("has", 0))));
            int q = call("net", 0, random.nextInt(Math.max(1, call("has", 0))));
            int far = call("far", p, q) + (random.nextInt(9) == 0 ? 1 : 0);
            bytes.add(p & 255);
            bytes.add(q & 255);
            bytes.add(far >> 8 & 255);
            bytes.add(far & 255);
        }
        if (random.nextInt(12) == 0 && !bytes.isEmpty()) {
            bytes.remove(bytes.size() - 1);
        }
        call("end", 0);
        feedAll(bytes);
        call("see");
        for (int i = -1; i < 4; i++) {
            call("fits", i);
            call("tells", i);
        }
    }

    private void imageOn() {
        int n = call("image");
        List<Integer> bytes = new ArrayList<>();
        for (int i = 0; i < n; i++) {
            bytes.add(call("octet", i));
        }
        calls -= Math.max(0, n - 6);
        if (bytes.size() > 3 && random.nextInt(4) > 0) {
            for (int turn = random.nextInt(3); turn >= 0; turn--) {
                int i = random.nextInt(bytes.size() - 1);
                int by = random.nextInt(3) == 0 ? random.nextInt(256) : random.nextInt(5) - 2;
                bytes.set(i, bytes.get(i) + by & 255);
            }
            int c = 149;
            for (int i = 0; i + 1 < bytes.size(); i++) {
                c = (3 * c + bytes.get(i)) % 251;
            }
            bytes.set(bytes.size() - 1, random.nextInt(9) == 0 ? random.nextInt(256) : c);
        }
        call("end", 0);
        feedAll(bytes);
        call("on");
    }

    private void nameOne() {
        String name = random.nextInt(4) == 0 ? "set" : name(random.nextInt(40));
        List<Integer> bytes = new ArrayList<>();
        name.chars().forEach(bytes::add);
        if (random.nextInt(5) == 0) {
            bytes.add(random.nextInt(256));
        }
        call("end", 0);
        feedAll(bytes);
        call("named");
    }

    private int argument(String method, int place) {
        if (random.nextInt(12) == 0) {
            return WILD[random.nextInt(WILD.length)];
        }
        switch (method) {
            case "add": case "at": case "seek": case "comes": case "nth": case "within": case "remote": case "proves":
                return place < 3 ? random.nextInt(spread) : random.nextInt(method.equals("within") ? 200 : 8);
            case "move":
                return place == 0 ? random.nextInt(40) : random.nextInt(spread);
            case "group":
                return place == 0 ? random.nextInt(40) : random.nextInt(spread);
            case "groups":
                return random.nextInt(spread);
            case "feed":
                return random.nextInt();
            case "end":
                return random.nextInt(60);
            case "seed":
                return random.nextInt() >>> 1;
            case "net": case "loose":
                return place == 0 ? random.nextInt(12) : random.nextInt(5) - 1;
            case "above":
                return place == 0 ? random.nextInt(40) : random.nextInt(12);
            case "centers": case "center": case "link": case "goes": case "child":
                return place == 0 ? random.nextInt(random.nextBoolean() ? 40 : 6) : random.nextInt(4);
            case "anew": case "most": case "fits": case "tells": case "by":
                return random.nextInt(3);
            case "found": case "pruned": case "pair": case "status": case "has":
                return random.nextInt(7);
            case "chance":
                return 1 + random.nextInt(random.nextInt(4) == 0 ? 40 : 5);
            default:
                return random.nextInt(place == 0 && random.nextBoolean() ? 40 : 8);
        }
    }

    private void anyCall() {
        Method m = methods.get(random.nextInt(methods.size()));
        if (m.getName().equals("set") && random.nextInt(4) > 0) {
            return;
        }
        int[] args = new int[m.getParameterCount()];
        for (int i = 0; i < args.length; i++) {
            args[i] = argument(m.getName(), i);
        }
        calls++;
        call(m, args);
    }

    private void everyPoint() {
        for (int p = 0; p < 40; p++) {
            for (int what = 0; what < 7; what++) {
                call("point", p, what);
            }
            for (int k = 0; k < 6; k++) {
                call("letter", p, k);
            }
        }
        for (int what = 0; what < 7; what++) {
            call("has", what);
            call("status", what);
        }
        calls -= 560;
    }

    private void play() {
        if (random.nextInt(10) > 0) {
            tellSet(random.nextInt(41), random.nextInt(5) == 0);
        }
        while (calls < CALLS) {
            int dice = random.nextInt(60);
            if (dice == 0) {
                tellSet(random.nextInt(44), random.nextInt(3) > 0);
            } else if (dice < 3) {
                proveLatest();
            } else if (dice < 5) {
                seeRows();
            } else if (dice < 6) {
                imageOn();
            } else if (dice < 7) {
                nameOne();
            } else if (dice < 9) {
                everyPoint();
            } else {
                anyCall();
            }
        }
        everyPoint();
    }

    public static void main(String[] args) {
        List<Method> methods = new ArrayList<>();
        for (Method m : ScaleNets.class.getDeclaredMethods()) {
            if (java.lang.reflect.Modifier.isPublic(m.getModifiers())) {
                methods.add(m);
            }
        }
        methods.sort(Comparator.comparing(Method::getName));
        int first = args.length > 0 ? Integer.parseInt(args[0]) : 0;
        int last = args.length > 1 ? Integer.parseInt(args[1]) : RUNS;
        java.util.Map<String, int[]> counts = new java.util.TreeMap<>();
        for (int run = first; run < last; run++) {
            ModelTest test = new ModelTest(run, methods);
            try {
                test.play();
            } catch (IllegalStateException e) {
                System.out.println(e.getMessage());
                if (e.getCause() != null) {
                    e.getCause().printStackTrace(System.out);
                }
                System.exit(1);
            }
            if (args.length > 2) {
                for (String t : test.told) {
                    int[] c = counts.computeIfAbsent(t.substring(0, t.indexOf('[')), n -> new int[2]);
                    c[0]++;
                    if (t.endsWith("-> -1") || t.endsWith("-> false")) {
                        c[1]++;
                    }
                }
            }
        }
        counts.forEach((n, c) -> System.out.println(n + ": " + c[0] + " calls, " + c[1] + " of them none"));
        System.out.println("the model answers alike in " + (last - first) + " runs");
    }
}
