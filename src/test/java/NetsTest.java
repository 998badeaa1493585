/** Promises 6 and 9 to 16: what there is, points, children, nets, above, loose, most. */
public final class NetsTest {
    private static final Check CHECK = new Check("NetsTest");

    private static void rows(String what, int[] got, int... want) {
        CHECK.same(what, java.util.Arrays.toString(got), java.util.Arrays.toString(want));
    }

    private static int[] pointOf(ScaleNets x, int p) {
        int[] row = new int[7];
        for (int what = 0; what < 7; what++) {
            row[what] = x.point(p, what);
        }
        return row;
    }

    private static void has(ScaleNets x, int... want) {
        int[] got = new int[7];
        for (int what = 0; what < 7; what++) {
            got[what] = x.has(what);
        }
        rows("has", got, want);
    }

    private static void four() {
        ScaleNets x = Check.of(Check.FOUR);
        has(x, 4, 0, 0, 3, 0, 0, 1);
        rows("a", pointOf(x, 0), 0, 0, 0, 10, -1, 2, 3);
        rows("b", pointOf(x, 1), 3, 0, 0, 1, 0, 1, 1);
        rows("c", pointOf(x, 2), 4, 0, 0, 0, 1, 0, 0);
        rows("d", pointOf(x, 3), 0, 9, 0, 3, 0, 0, 0);
        for (int p : new int[] {-1, 4, 39, 40, Integer.MAX_VALUE, Integer.MIN_VALUE}) {
            rows("none", pointOf(x, p), -1, -1, -1, -1, -1, -1, -1);
            CHECK.due("child of none", x.child(p, 0), -1);
            CHECK.due("far of none", x.far(p, 0), -1);
            CHECK.due("far of none", x.far(0, p), -1);
            CHECK.due("above of none", x.above(p, 0), -1);
        }
        CHECK.due("point(0, 7)", x.point(0, 7), -1);
        CHECK.due("point(0, -1)", x.point(0, -1), -1);
        CHECK.due("at a", x.at(0, 0, 0), 0);
        CHECK.due("at d", x.at(0, 9, 0), 3);
        CHECK.due("at no point", x.at(9, 0, 0), -1);
        CHECK.due("at no place", x.at(-1, 0, 0), -1);
        CHECK.due("at no place", x.at(0, 256, 0), -1);
        CHECK.due("at no place", x.at(0, 0, 65536), -1);
        CHECK.due("child(0, 0)", x.child(0, 0), 3);
        CHECK.due("child(0, 1)", x.child(0, 1), 1);
        CHECK.due("child(0, 2)", x.child(0, 2), -1);
        CHECK.due("child(0, -1)", x.child(0, -1), -1);
        CHECK.due("child(1, 0)", x.child(1, 0), 2);
        CHECK.due("child(1, 1)", x.child(1, 1), -1);
        CHECK.due("child(2, 0)", x.child(2, 0), -1);
    }

    private static void measures() {
        String points = ";point a at 1 20 128;point b at 2 17 0;point c at 255 0 255;point d at 1 20 127;";
        int[][] want = {{1 + 3 + 128, 254 + 20 + 127, 1, 253 + 17 + 255}, {128, 254, 1, 255}, {2 + 2 + 1, 7 + 2 + 7, 8, 7 + 2 + 8}};
        String[] measures = {"sum", "most", "bits"};
        for (int m = 0; m < 3; m++) {
            ScaleNets x = Check.of("set by " + measures[m] + points);
            CHECK.due("has(1)", x.has(1), m);
            CHECK.due("far(0, 1)", x.far(0, 1), want[m][0]);
            CHECK.due("far(2, 0)", x.far(2, 0), want[m][1]);
            CHECK.due("far(0, 3)", x.far(0, 3), want[m][2]);
            CHECK.due("far(1, 2)", x.far(1, 2), want[m][3]);
            CHECK.due("far(2, 2)", x.far(2, 2), 0);
        }
    }

    private static void levels() {
        // From the root at 0: just at a power of two is not nearer than it, one less is.
        int[] places = {0, 1, 2, 3, 4, 7, 8, 15, 16, 31, 32, 63, 64, 127, 128, 255};
        int[] level = {10, 0, 1, 1, 2, 2, 3, 3, 4, 4, 5, 5, 6, 6, 7, 7};
        for (int i = 1; i < places.length; i++) {
            ScaleNets x = Check.of("set by most;point r at 0 0 0;point p at " + places[i] + " 0 0;");
            CHECK.due("level at " + places[i], x.point(1, 3), level[i]);
            CHECK.due("parent at " + places[i], x.point(1, 4), 0);
            CHECK.due("has(3)", x.has(3), level[i]);
        }
        ScaleNets far = Check.of("set by sum;point r at 0 0 0;point p at 255 255 2;point q at 255 255 1;point s at 255 255 255;");
        CHECK.due("level at 512", far.point(1, 3), 9);
        CHECK.due("level beside it", far.point(2, 3), 0);
        CHECK.due("parent beside it", far.point(2, 4), 1);
        CHECK.due("level at 253 of it", far.point(3, 3), 7);
        CHECK.due("parent at 253 of it", far.point(3, 4), 1);
    }

    private static void parents() {
        // c is as far from a as from b, both of net 4: the less number is its parent.
        ScaleNets x = Check.of("set by most;point a at 0 0 0;point b at 20 0 0;point c at 10 0 0;");
        CHECK.due("level of b", x.point(1, 3), 4);
        CHECK.due("level of c", x.point(2, 3), 3);
        CHECK.due("parent of c", x.point(2, 4), 0);
        // c is nearer to e, but e is of c's own level.
        ScaleNets w = Check.of("set by most;point a at 0 0 0;point e at 12 0 0;point c at 13 10 0;");
        CHECK.due("level of c", w.point(2, 3), 3);
        CHECK.due("parent of c", w.point(2, 4), 0);
        // The nearest of all is e, but it is of no net above c's level.
        ScaleNets y = Check.of("set by most;point a at 0 0 0;point e at 9 0 0;point b at 40 0 0;point c at 21 0 0;");
        CHECK.due("level of e", y.point(1, 3), 3);
        CHECK.due("level of c", y.point(3, 3), 4);
        CHECK.due("parent of c", y.point(3, 4), 2);
        CHECK.due("children of a", y.point(0, 5), 2);
        CHECK.due("first child of a", y.child(0, 0), 2);
        CHECK.due("next child of a", y.child(0, 1), 1);
        CHECK.due("below a", y.point(0, 6), 3);
    }

    private static void nets() {
        ScaleNets x = Check.of(Check.FOUR);
        int[] sizes = {4, 3, 2, 2, 1, 1, 1, 1, 1, 1, 1};
        for (int level = 0; level <= 10; level++) {
            CHECK.due("net(" + level + ", NONE)", x.net(level, -1), sizes[level]);
            CHECK.due("net(" + level + ", 0)", x.net(level, 0), 0);
            CHECK.due("net behind its last", x.net(level, sizes[level]), -1);
        }
        CHECK.due("net(1, 1)", x.net(1, 1), 1);
        CHECK.due("net(1, 2)", x.net(1, 2), 3);
        CHECK.due("net(0, 2)", x.net(0, 2), 2);
        CHECK.due("net(0, -2)", x.net(0, -2), -1);
        CHECK.due("net(-1, -1)", x.net(-1, -1), -1);
        CHECK.due("net(11, -1)", x.net(11, -1), -1);
        CHECK.due("net(-1, 0)", x.net(-1, 0), -1);
        int[][] above = {{0, 0, 0, 0, 0}, {1, 1, 0, 0, 0}, {2, 1, 0, 0, 0}, {3, 3, 3, 3, 0}};
        for (int p = 0; p < 4; p++) {
            for (int level = 0; level <= 10; level++) {
                CHECK.due("above(" + p + ", " + level + ")", x.above(p, level), above[p][Math.min(4, level)]);
            }
            CHECK.due("above at no level", x.above(p, 11), -1);
            CHECK.due("above at no level", x.above(p, -1), -1);
        }
    }

    private static void loose() {
        ScaleNets x = Check.of(Check.FOUR);
        int[] least = {1, 3, 9, 9, -1, -1, -1, -1, -1, -1, -1};
        int[] most = {0, 1, 4, 4, 9, 9, 9, 9, 9, 9, 9};
        int[] crowd = {2, 3, 2, 2, 2, 1, 1, 1, 1, 1, 1};
        for (int level = 0; level <= 10; level++) {
            CHECK.due("loose(" + level + ", 0)", x.loose(level, 0), least[level]);
            CHECK.due("loose(" + level + ", 1)", x.loose(level, 1), most[level]);
            CHECK.due("loose(" + level + ", 2)", x.loose(level, 2), crowd[level]);
            CHECK.due("loose(" + level + ", 3)", x.loose(level, 3), -1);
            CHECK.due("loose(" + level + ", -1)", x.loose(level, -1), -1);
        }
        for (int what = 0; what < 3; what++) {
            CHECK.due("loose(11, " + what + ")", x.loose(11, what), -1);
            CHECK.due("loose(-1, " + what + ")", x.loose(-1, what), -1);
        }
        ScaleNets y = Check.of("set by most;point r at 0 0 0;point p at 100 0 0;point q at 100 64 0;");
        CHECK.due("loose(6, 0): the two that are no root", y.loose(6, 0), 64);
        CHECK.due("loose(5, 2): just 64 is not nearer", y.loose(5, 2), 1);
        CHECK.due("loose(6, 2): nearer than 128", y.loose(6, 2), 3);
        ScaleNets empty = Check.of("set by most;");
        for (int what = 0; what < 3; what++) {
            CHECK.due("loose without points", empty.loose(0, what), -1);
            CHECK.due("loose without points", empty.loose(10, what), -1);
        }
    }

    private static void most() {
        ScaleNets x = Check.of(Check.FOUR);
        CHECK.due("most(0)", x.most(0), 2);
        CHECK.due("most(1)", x.most(1), 0);
        CHECK.due("most(2)", x.most(2), -1);
        CHECK.due("most(-1)", x.most(-1), -1);
        ScaleNets one = Check.of("set by sum;point a at 1 2 3;");
        CHECK.due("most(0) of one", one.most(0), 0);
        CHECK.due("most(1) of one", one.most(1), 0);
        // b (1) and d (3) have one child each, and the root a (0) two of its own.
        ScaleNets three = Check.of("set by sum;point e at 200 0 0;point b at 0 0 0;point c at 1 0 0;point d at 0 50 0;point f at 0 51 0;");
        CHECK.due("parent of c", three.point(2, 4), 1);
        CHECK.due("parent of d", three.point(3, 4), 1);
        CHECK.due("parent of f", three.point(4, 4), 3);
        CHECK.due("most(0)", three.most(0), 2);
        CHECK.due("most(1)", three.most(1), 1);
        three.drop(2);
        CHECK.due("most(0), like ones", three.most(0), 1);
        CHECK.due("most(1), like ones", three.most(1), 0);
        ScaleNets empty = Check.of("set by most;");
        CHECK.due("most without points", empty.most(0), -1);
        CHECK.due("most without points", empty.most(1), -1);
        has(empty, 0, 1, -1, -1, 0, 0, 1);
        has(one, 1, 0, 0, -1, 0, 0, 1);
    }

    public static void main(String[] args) {
        four();
        measures();
        levels();
        parents();
        nets();
        loose();
        most();
        CHECK.finish();
    }
}
