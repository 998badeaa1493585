import java.lang.reflect.InvocationTargetException;
import java.lang.reflect.Method;
import java.util.ArrayList;
import java.util.Comparator;
import java.util.List;
import java.util.function.ToIntFunction;

/** What the tests share: telling a tape, comparing answers, and the end of a test. */
final class Check {
    /** Four points by sum: a is the root; b (level 1) and d (3) are its children, c (0) is b's. */
    static final String FOUR = "set by sum;point a at 0 0 0;point b at 3 0 0;point c at 4 0 0;point d at 0 9 0;";

    private final String name;
    private String test = "";
    private int asked = 0;
    private int wrong = 0;

    Check(String name) {
        this.name = name;
    }

    void due(String call, int got, int want) {
        asked++;
        if (got != want) {
            wrong++;
            System.out.println(name + test + ": " + call + " answered " + got + ", due is " + want);
        }
    }

    void due(String call, boolean got, boolean want) {
        due(call, got ? 1 : 0, want ? 1 : 0);
    }

    /** One call with several arguments in turn, all of which ask for the same answer. */
    void each(String call, int[] arguments, ToIntFunction<Integer> asks, int want) {
        for (int argument : arguments) {
            due(call + " with " + argument, asks.applyAsInt(argument), want);
        }
    }

    void same(String call, String got, String want) {
        asked++;
        if (!got.equals(want)) {
            wrong++;
            System.out.println(name + test + ": behind " + call + " stands " + got + ", due is " + want);
        }
    }

    static void tape(ScaleNets x, int... bytes) {
        x.end(0);
        for (int i = 0; i < bytes.length; i += 20) {
            int[] five = new int[5];
            for (int j = 0; j < 20; j++) {
                five[j / 4] = five[j / 4] << 8 | (i + j < bytes.length ? bytes[i + j] : 0);
            }
            x.feed(five[0], five[1], five[2], five[3], five[4]);
        }
        x.end(bytes.length);
    }

    static void tape(ScaleNets x, String text) {
        tape(x, text.chars().toArray());
    }

    static ScaleNets of(String text) {
        ScaleNets x = new ScaleNets();
        tape(x, text);
        if (x.set() < 0) {
            System.out.println("no set: " + text + " has fault " + x.fault(0) + " at " + x.fault(1));
            System.exit(1);
        }
        return x;
    }

    /** Runs every test of a class: its methods that bear the name of a promise, in their order. */
    void runAll(Class<?> tests) throws ReflectiveOperationException {
        List<Method> named = new ArrayList<>();
        for (Method m : tests.getDeclaredMethods()) {
            if (m.getName().startsWith("promise")) {
                named.add(m);
            }
        }
        named.sort(Comparator.comparing(Method::getName));
        for (Method m : named) {
            runOne(m);
        }
        System.out.println(name + ": " + named.size() + " tests");
        finish();
    }

    private void runOne(Method m) throws ReflectiveOperationException {
        test = "." + m.getName();
        int ahead = asked;
        try {
            m.invoke(null);
        } catch (InvocationTargetException e) {
            wrong++;
            System.out.println(name + test + ": threw " + e.getCause());
        }
        due("a test asks something", asked > ahead, true);
    }

    void finish() {
        System.out.println(name + ": " + asked + " answers, " + wrong + " not as due");
        if (wrong != 0 || asked == 0) {
            System.exit(1);
        }
    }
}
