/** Promises 37 to 44 and 48: add, drop, move, by, lay, chance, undo, seed, and what was refused. */
public final class ActsTest {
    private static final Check CHECK = new Check("ActsTest");

    private static void levelsAndParents(String when, ScaleNets x, int... want) {
        int[] got = new int[want.length];
        for (int i = 0; i < want.length; i += 3) {
            got[i] = want[i];
            got[i + 1] = x.point(want[i], 3);
            got[i + 2] = x.point(want[i], 4);
        }
        CHECK.same(when, java.util.Arrays.toString(got), java.util.Arrays.toString(want));
    }

    private static void adds() {
        ScaleNets x = Check.of(Check.FOUR);
        CHECK.due("add where one is", x.add(4, 0, 0), -1);
        CHECK.due("add at no place", x.add(4, 256, 0), -1);
        CHECK.due("add at no place", x.add(4, 0, -1), -1);
        CHECK.due("status(2)", x.status(2), 3);
        CHECK.due("has(5)", x.has(5), 0);
        CHECK.due("add", x.add(0, 11, 0), 4);
        levelsAndParents("add", x, 4, 1, 3, 3, 3, 0);
        x.drop(1);
        CHECK.due("add at the least number", x.add(1, 0, 0), 1);
        CHECK.due("has(0)", x.has(0), 5);
        CHECK.due("has(5)", x.has(5), 3);
        ScaleNets fresh = new ScaleNets();
        CHECK.due("add without a set", fresh.add(1, 1, 1), -1);
        CHECK.due("status(2)", fresh.status(2), 1);
        ScaleNets full = Check.of("set by bits;");
        for (int i = 0; i < 40; i++) {
            CHECK.due("add", full.add(0, i, 0), i);
        }
        CHECK.due("the 41st", full.add(0, 0, 1), -1);
        CHECK.due("has(0)", full.has(0), 40);
        CHECK.due("has(5)", full.has(5), 20);
    }

    private static void drops() {
        ScaleNets x = Check.of(Check.FOUR);
        CHECK.due("drop(4)", x.drop(4), false);
        CHECK.due("drop(-1)", x.drop(-1), false);
        CHECK.due("drop(40)", x.drop(40), false);
        CHECK.due("status(2)", x.status(2), 3);
        CHECK.due("drop(1)", x.drop(1), true);
        // c is 4 from a: not nearer than 2 to the 1 or 2, so it rises to 2, and its parent is a.
        levelsAndParents("drop(1)", x, 0, 10, -1, 1, -1, -1, 2, 2, 0, 3, 3, 0);
        CHECK.due("undo()", x.undo(), true);
        CHECK.due("drop(0)", x.drop(0), true);
        // d is the root; b is 12 from it and rises to 3; c stays with b.
        levelsAndParents("drop(0)", x, 1, 3, 3, 2, 0, 1, 3, 10, -1);
        CHECK.due("has(2)", x.has(2), 3);
        CHECK.due("drop(3)", x.drop(3), true);
        levelsAndParents("drop(3)", x, 1, 10, -1, 2, 0, 1);
        CHECK.due("drop(1)", x.drop(1), true);
        levelsAndParents("drop(1)", x, 2, 10, -1);
        CHECK.due("drop(2)", x.drop(2), true);
        CHECK.due("has(0)", x.has(0), 0);
        CHECK.due("has(2)", x.has(2), -1);
        CHECK.due("drop(2) again", x.drop(2), false);
        CHECK.due("add, the root again", x.add(9, 9, 9), 0);
        levelsAndParents("add", x, 0, 10, -1);
    }

    /** Those that are left are taken by levels, then numbers: one that rose covers the next. */
    private static void leftOnes() {
        ScaleNets x = Check.of("set by sum;point r at 255 255 255;point g at 100 0 0;point p at 97 0 0;point q at 96 0 0;"
                + "point s at 104 0 0;");
        levelsAndParents("set", x, 0, 10, -1, 1, 9, 0, 2, 1, 1, 3, 0, 2, 4, 2, 1);
        x.drop(1);
        // s (level 2) first: nobody but the root is near, it rises to 9. Then p is 7 from s: level 2.
        levelsAndParents("drop(1)", x, 0, 10, -1, 4, 9, 0, 2, 2, 4, 3, 0, 2);
        ScaleNets y = Check.of("set by sum;point r at 255 255 255;point g at 100 0 0;point s at 104 0 0;point p at 96 0 0;");
        levelsAndParents("set", y, 1, 9, 0, 2, 2, 1, 3, 2, 1);
        y.drop(1);
        // Of like levels s has the less number; p, 8 from it, rises to 3 alone.
        levelsAndParents("drop(1)", y, 2, 9, 0, 3, 3, 2);
    }

    private static void moves() {
        ScaleNets x = Check.of(Check.FOUR);
        CHECK.due("move to itself", x.move(1, 3, 0, 0), false);
        CHECK.due("move to another", x.move(1, 4, 0, 0), false);
        CHECK.due("move to no place", x.move(1, 4, 0, 256), false);
        CHECK.due("move none", x.move(4, 7, 7, 7), false);
        CHECK.due("move none", x.move(-1, 7, 7, 7), false);
        CHECK.due("status(2)", x.status(2), 5);
        CHECK.due("has(5)", x.has(5), 0);
        CHECK.due("move(1, 5, 0, 0)", x.move(1, 5, 0, 0), true);
        // c rose to 2 when b went; b comes 1 from it then.
        levelsAndParents("move(1, 5, 0, 0)", x, 0, 10, -1, 1, 0, 2, 2, 2, 0, 3, 3, 0);
        CHECK.due("its place", x.point(1, 0), 5);
        CHECK.due("its name", x.letter(1, 0), 2);
        CHECK.due("one act", x.has(5), 1);
        CHECK.due("has(0)", x.has(0), 4);
        CHECK.due("move the root", x.move(0, 0, 10, 0), true);
        // d is the root then; c, 13 from it, rises to 3; a comes 1 from d.
        levelsAndParents("move(0, ..)", x, 0, 0, 3, 1, 0, 2, 2, 3, 3, 3, 10, -1);
        CHECK.due("undo()", x.undo(), true);
        levelsAndParents("undo()", x, 0, 10, -1, 1, 0, 2, 2, 2, 0, 3, 3, 0);
        ScaleNets one = Check.of("set by sum;point a at 1 1 1;");
        CHECK.due("move the only one", one.move(0, 2, 2, 2), true);
        levelsAndParents("move", one, 0, 10, -1);
        CHECK.due("has(0)", one.has(0), 1);
        CHECK.due("at", one.at(2, 2, 2), 0);
        CHECK.due("at", one.at(1, 1, 1), -1);
    }

    private static void measures() {
        ScaleNets x = Check.of(Check.FOUR);
        CHECK.due("by(0)", x.by(0), false);
        CHECK.due("by(3)", x.by(3), false);
        CHECK.due("by(-1)", x.by(-1), false);
        CHECK.due("status(3)", x.status(3), 3);
        CHECK.due("by(2)", x.by(2), true);
        // By bits: b 2 from a, c 1 from a and 3 from b, d 2 from a, 4 from b, 3 from c.
        levelsAndParents("by(2)", x, 0, 10, -1, 1, 1, 0, 2, 0, 0, 3, 1, 0);
        CHECK.due("has(1)", x.has(1), 2);
        CHECK.due("by(2) again", x.by(2), false);
        CHECK.due("letter(3, 0)", x.letter(3, 0), 4);
        CHECK.due("undo()", x.undo(), true);
        CHECK.due("has(1)", x.has(1), 0);
        levelsAndParents("undo()", x, 0, 10, -1, 1, 1, 0, 2, 0, 1, 3, 3, 0);
        CHECK.due("by without a set", new ScaleNets().by(1), false);
        CHECK.due("by without points", Check.of("set by sum;").by(1), true);
        x.drop(0);
        CHECK.due("by(1), all anew", x.by(1), true);
        levelsAndParents("by(1)", x, 1, 10, -1, 2, 0, 1, 3, 3, 1);
    }

    private static void lays() {
        ScaleNets x = Check.of(Check.FOUR);
        CHECK.due("lay() as it was", x.lay(), 0);
        CHECK.due("it is an act", x.has(5), 1);
        x.drop(0);
        CHECK.due("lay()", x.lay(), 2);
        levelsAndParents("lay()", x, 1, 10, -1, 2, 0, 1, 3, 3, 1);
        CHECK.due("letter(1, 0)", x.letter(1, 0), 2);
        CHECK.due("lay() again", x.lay(), 0);
        CHECK.due("undo()", x.undo() && x.undo(), true);
        levelsAndParents("undo()", x, 1, 3, 3, 2, 0, 1, 3, 10, -1);
        ScaleNets empty = Check.of("set by sum;");
        CHECK.due("lay() without points", empty.lay(), -1);
        CHECK.due("status(3)", empty.status(3), 1);
        CHECK.due("has(5)", empty.has(5), 0);
    }

    private static long drawn;

    private static int draw(int m) {
        drawn = (1103515245L * drawn + 12345L) % (1L << 31);
        return (int) (drawn / 64 % m);
    }

    /** The same draws, told to another object as points that come and go. */
    private static void chanceByHand(ScaleNets y) {
        if (draw(3) < 2) {
            int px = draw(256);
            int py = draw(256);
            int pz = draw(256);
            y.add(px, py, pz);
        } else {
            int k = draw(Math.max(1, y.has(0)));
            y.drop(y.net(0, k));
        }
    }

    private static void chances() {
        ScaleNets x = Check.of("set by sum;");
        ScaleNets y = Check.of("set by sum;");
        CHECK.due("chance(0)", x.chance(0), -1);
        CHECK.due("chance(41)", x.chance(41), -1);
        CHECK.due("chance(-1)", x.chance(-1), -1);
        CHECK.due("status(3)", x.status(3), 3);
        CHECK.due("the seed stays", x.has(6), 1);
        drawn = 1;
        int[] turns = {1, 2, 40, 40, 40};
        for (int n : turns) {
            for (int i = 0; i < n; i++) {
                chanceByHand(y);
            }
            CHECK.due("chance(" + n + ")", x.chance(n), y.has(0));
            CHECK.due("the seed", x.has(6), (int) drawn);
        }
        CHECK.same("all these", Kept.points(x), Kept.points(y));
        CHECK.due("one act each", x.has(5), turns.length);
        CHECK.due("points come more than they go", x.has(0) > 30, true);
        long seed = drawn;
        CHECK.due("undo()", x.undo(), true);
        CHECK.due("the seed stays", x.has(6), (int) seed);
        ScaleNets fresh = new ScaleNets();
        CHECK.due("chance without a set", fresh.chance(1), -1);
        CHECK.due("status(3)", fresh.status(3), 1);
        CHECK.due("the seed stays", fresh.has(6), 1);
        noneToGo();
    }

    /** With no point there is a draw of 1 all the same, and nobody goes. */
    private static void noneToGo() {
        ScaleNets x = Check.of("set by sum;");
        for (int seed = 0; seed < 20; seed++) {
            drawn = seed;
            if (draw(3) == 2) {
                draw(1);
                x.seed(seed);
                CHECK.due("chance(1), none to go", x.chance(1), 0);
                CHECK.due("the seed behind two draws", x.has(6), (int) drawn);
                CHECK.due("it is an act", x.undo(), true);
            }
        }
    }

    /** FOUR behind so many acts of all kinds. */
    private static ScaleNets behindActs(int many) {
        ScaleNets x = Check.of(Check.FOUR);
        for (int i = 0; i < many; i++) {
            switch (i % 5) {
                case 0: x.add(20 * i / 5, 200, 7); break;
                case 1: x.drop(i / 5); break;
                case 2: x.chance(3); break;
                case 3: x.by((x.has(1) + 1) % 3); break;
                default: x.lay(); break;
            }
            CHECK.due("has(5)", x.has(5), Math.min(20, i + 1));
        }
        return x;
    }

    private static ScaleNets undone(ScaleNets x, int times) {
        for (int i = 0; i < times; i++) {
            CHECK.due("undo()", x.undo(), true);
        }
        return x;
    }

    private static void undoes() {
        ScaleNets none = Check.of(Check.FOUR);
        CHECK.due("undo() of nothing", none.undo(), false);
        CHECK.due("status(4)", none.status(4), 1);
        for (int i = 24; i >= 5; i--) {
            ScaleNets x = undone(behindActs(25), 25 - i);
            CHECK.same("undo()", Kept.points(x), Kept.points(behindActs(i)));
            CHECK.due("has(5)", x.has(5), i - 5);
        }
        String due = Kept.points(behindActs(5));
        ScaleNets x = undone(behindActs(25), 20);
        CHECK.due("undo() of a 21st", x.undo(), false);
        CHECK.same("undo()", Kept.points(x), due);
        CHECK.due("status(4)", x.status(4), 1);
        x.add(1, 2, 3);
        CHECK.due("undo() of a new one", x.undo(), true);
        CHECK.same("undo()", Kept.points(x), due);
        // Names come back with their points.
        ScaleNets y = Check.of(Check.FOUR);
        y.drop(2);
        y.add(9, 9, 9);
        y.undo();
        y.undo();
        CHECK.due("letter(2, 0)", y.letter(2, 0), 3);
    }

    private static void seeds() {
        ScaleNets x = new ScaleNets();
        CHECK.due("seed(-1)", x.seed(-1), false);
        CHECK.due("seed(min)", x.seed(Integer.MIN_VALUE), false);
        CHECK.due("status(5)", x.status(5), 2);
        CHECK.due("has(6)", x.has(6), 1);
        CHECK.due("seed(0)", x.seed(0), true);
        CHECK.due("has(6)", x.has(6), 0);
        CHECK.due("seed(max)", x.seed(Integer.MAX_VALUE), true);
        CHECK.due("has(6)", x.has(6), Integer.MAX_VALUE);
        CHECK.due("it is no act", x.has(5), 0);
    }

    private static void refusals() {
        ScaleNets x = Check.of(Check.FOUR);
        x.end(-1);
        x.set();
        x.set();
        x.drop(9);
        x.move(9, 0, 0, 0);
        x.add(0, 0, 0);
        for (int i = 0; i < 4; i++) {
            x.by(7);
            x.undo();
        }
        x.undo();
        x.seed(-1);
        x.on();
        x.named();
        x.proves(0, 0, 0, 999);
        x.seek(-1, 0, 0);
        x.image();
        int[] want = {1, 2, 3, 4, 5, 2};
        for (int what = 0; what < 6; what++) {
            CHECK.due("status(" + what + ")", x.status(what), want[what]);
        }
        CHECK.due("status(6)", x.status(6), -1);
        CHECK.due("status(-1)", x.status(-1), -1);
        Check.tape(x, "set by most;");
        CHECK.due("set()", x.set(), 1);
        CHECK.due("status stays behind a set", x.status(4), 5);
    }

    public static void main(String[] args) {
        adds();
        drops();
        leftOnes();
        moves();
        measures();
        lays();
        chances();
        undoes();
        seeds();
        refusals();
        CHECK.finish();
    }
}
