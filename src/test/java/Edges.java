import java.util.Arrays;
import java.util.Comparator;
import java.util.function.ToIntFunction;

/** Objects at the edges of the document, and what is asked of a refused call, for the Edges..Test. */
final class Edges {
    /** What is no number of a PLACE: the first on either side, and the farthest. */
    static final int[] NO_COORDINATE = {-1, 256, Integer.MIN_VALUE, Integer.MAX_VALUE};
    /** What is no POINT of Check.FOUR. */
    static final int[] NO_POINT_OF_FOUR = {-1, 4, 39, 40, Integer.MIN_VALUE, Integer.MAX_VALUE};
    static final int[] NO_LEVEL = {-1, 11, Integer.MIN_VALUE, Integer.MAX_VALUE};
    /** What is no length, and no d. */
    static final int[] NO_LENGTH = {-1, 1000, Integer.MIN_VALUE, Integer.MAX_VALUE};

    /** Eleven points, each the only child of the one ahead: LEVELS 10, 9, .. 0. */
    static final String CHAIN = "set by sum;point a at 255 255 255;point b at 0 0 0;point c at 255 1 0;"
            + "point d at 255 129 0;point e at 255 129 64;point f at 255 161 64;point g at 255 161 80;"
            + "point h at 255 169 80;point i at 255 169 84;point j at 255 171 84;point k at 255 171 85;";

    private Edges() {
    }

    /** The whats that are none: below 0, behind the last one, and the farthest. */
    static int[] noWhat(int last) {
        return new int[] {-1, last + 1, Integer.MIN_VALUE, Integer.MAX_VALUE};
    }

    /** Three numbers, of which one is the given one. */
    static int[][] placesWith(int number) {
        return new int[][] {{number, 0, 0}, {0, number, 0}, {0, 0, number}};
    }

    static ScaleNets empty(String measure) {
        return Check.of("set by " + measure + ";");
    }

    /** A text of as many points as there can be, xaa, xab, .. in a row. */
    static String fortyPoints() {
        StringBuilder b = new StringBuilder("set by most;");
        for (int i = 0; i < 40; i++) {
            b.append("point x").append((char) ('a' + i / 10)).append((char) ('a' + i % 10)).append(" at ")
                    .append(i).append(" 0 0;");
        }
        return b.toString();
    }

    /** A root, 26 children of LEVEL 1 around it, two steps off, and 13 of LEVEL 0, one step off. */
    static ScaleNets star() {
        ScaleNets x = Check.of("set by most;point r at 100 100 100;");
        ring(x, 2, 26);
        ring(x, 1, 13);
        return x;
    }

    private static void ring(ScaleNets x, int step, int many) {
        int left = many;
        for (int i = 0; i < 27 && left > 0; i++) {
            int[] by = {i / 9 - 1, i / 3 % 3 - 1, i % 3 - 1};
            if (i != 13) {
                x.add(100 + step * by[0], 100 + step * by[1], 100 + step * by[2]);
                left--;
            }
        }
    }

    /** By most: the root is number 1, at 0 0 0, as number 0 went and came again at another place. */
    static ScaleNets rootIsOne(int x, int y, int z) {
        ScaleNets nets = Check.of("set by most;point x at 200 200 200;point a at 0 0 0;");
        nets.drop(0);
        nets.add(x, y, z);
        return nets;
    }

    /** The points of Check.FOUR, without names, by other numbers: those of a, b, c and d. */
    static ScaleNets fourAt(int a, int b, int c, int d) {
        int[][] rows = {{a, 0, 0, 0, 10, 255}, {b, 3, 0, 0, 1, a}, {c, 4, 0, 0, 0, b}, {d, 0, 9, 0, 3, a}};
        Arrays.sort(rows, Comparator.comparingInt(row -> row[0]));
        int[] all = {0, 4};
        for (int[] row : rows) {
            int ahead = all.length;
            all = Arrays.copyOf(all, ahead + 6);
            System.arraycopy(row, 0, all, ahead, 6);
        }
        ScaleNets x = empty("sum");
        Check.tape(x, checked(all));
        x.on();
        return x;
    }

    /** All that can be kept is there: names, a row seen, a search, an image, a seed, two acts. */
    static ScaleNets rich() {
        ScaleNets x = Check.of(Check.FOUR);
        Check.tape(x, 0, 1, 0, 3);
        x.see();
        x.seek(0, 9, 0);
        x.image();
        x.seed(77);
        x.add(100, 100, 100);
        x.move(2, 5, 0, 0);
        return x;
    }

    static String points(ScaleNets x) {
        StringBuilder b = new StringBuilder();
        for (int what = 0; what < 4; what++) {
            b.append(x.has(what)).append(' ');
        }
        int many = x.has(0);
        for (int k = 0; k < many; k++) {
            int p = x.net(0, k);
            b.append(p).append(':');
            for (int what = 0; what < 7; what++) {
                b.append(x.point(p, what)).append(',');
            }
            for (int letter = 0; letter < 6; letter++) {
                b.append(x.letter(p, letter)).append('.');
            }
        }
        return b.toString();
    }

    /** All that can be asked without a change, but for what was refused and the latest FAULT. */
    static String everything(ScaleNets x) {
        StringBuilder b = new StringBuilder(points(x));
        for (int what = 4; what < 7; what++) {
            b.append(" has ").append(x.has(what));
        }
        b.append(" found ").append(Arrays.toString(found(x)));
        for (int k = 0; k < x.found(2); k++) {
            b.append(" pruned ").append(x.pruned(k, 0)).append('@').append(x.pruned(k, 1)).append(' ')
                    .append(x.pruned(k, 2)).append(' ').append(x.pruned(k, 3));
        }
        for (int k = -1; k < 3; k++) {
            b.append(" fits ").append(x.fits(k)).append(" tells ").append(x.tells(k));
        }
        return b.append(" octets ").append(Arrays.toString(octets(x))).toString();
    }

    static int[] found(ScaleNets x) {
        return new int[] {x.found(0), x.found(1), x.found(2), x.found(3)};
    }

    /** The bytes of the latest image, whatever it was. */
    static int[] octets(ScaleNets x) {
        int[] bytes = new int[300];
        int many = 0;
        for (int o = x.octet(0); o >= 0 && many < bytes.length; o = x.octet(many)) {
            bytes[many++] = o;
        }
        return Arrays.copyOf(bytes, many);
    }

    static String image(ScaleNets x) {
        return x.image() + " " + Arrays.toString(octets(x));
    }

    /** The rows of an image with the byte that is due behind them. */
    static int[] checked(int... rows) {
        int c = 149;
        for (int o : rows) {
            c = (3 * c + o) % 251;
        }
        int[] all = Arrays.copyOf(rows, rows.length + 1);
        all[rows.length] = c;
        return all;
    }

    static int[] refusals(ScaleNets x) {
        int[] counts = new int[6];
        for (int what = 0; what < 6; what++) {
            counts[what] = x.status(what);
        }
        return counts;
    }

    /** A call that is refused: what it answers, the one count that is 1 more, and all else as it was. */
    static void refused(Check check, String call, ScaleNets x, int kind, int answer, ToIntFunction<ScaleNets> made) {
        String ahead = everything(x);
        int[] counts = refusals(x);
        counts[kind]++;
        check.due(call, made.applyAsInt(x), answer);
        check.same(call + ", counted", Arrays.toString(refusals(x)), Arrays.toString(counts));
        check.same(call + ", refused", everything(x), ahead);
    }

    /** A call that is refused of an object that has all; its acts can be undone as ahead of the call. */
    static void refusedOfRich(Check check, String call, int kind, int answer, ToIntFunction<ScaleNets> made) {
        ScaleNets x = rich();
        refused(check, call, x, kind, answer, made);
        check.due(call + ", then undo()", x.undo() && x.undo(), true);
        check.same(call + ", then undo()", points(x), points(Check.of(Check.FOUR)));
        check.due(call + ", then undo() of a third", x.undo(), false);
    }

    /** A call that answers, whatever it is, and leaves all as it was, counted nowhere. */
    static void leavesAll(Check check, String call, ScaleNets x, int answer, ToIntFunction<ScaleNets> made) {
        String ahead = everything(x);
        int[] counts = refusals(x);
        check.due(call, made.applyAsInt(x), answer);
        check.same(call + ", not counted", Arrays.toString(refusals(x)), Arrays.toString(counts));
        check.same(call, everything(x), ahead);
    }
}
