/** Promises 31 to 36: comes, goes, anew, see, fits, tells. */
public final class WouldBeTest {
    private static final Check CHECK = new Check("WouldBeTest");

    private static void comes() {
        ScaleNets x = Check.of(Check.FOUR);
        String ahead = Edges.points(x);
        CHECK.due("comes(1, 0, 0, 0)", x.comes(1, 0, 0, 0), 0);
        CHECK.due("comes(1, 0, 0, 1)", x.comes(1, 0, 0, 1), 0);
        CHECK.due("comes(255, 255, 255, 0)", x.comes(255, 255, 255, 0), 9);
        CHECK.due("comes(255, 255, 255, 1)", x.comes(255, 255, 255, 1), 0);
        CHECK.due("comes(0, 11, 0, 0)", x.comes(0, 11, 0, 0), 1);
        CHECK.due("comes(0, 11, 0, 1)", x.comes(0, 11, 0, 1), 3);
        CHECK.due("comes(.., 2)", x.comes(1, 0, 0, 2), -1);
        CHECK.due("comes(.., -1)", x.comes(1, 0, 0, -1), -1);
        CHECK.due("comes where one is", x.comes(4, 0, 0, 0), -1);
        CHECK.due("comes at no place", x.comes(4, 0, 256, 0), -1);
        CHECK.due("comes at no place", x.comes(-4, 0, 0, 1), -1);
        CHECK.same("comes", Edges.points(x), ahead);
        CHECK.due("comes without a set", new ScaleNets().comes(1, 1, 1, 0), -1);
        ScaleNets empty = Check.of("set by bits;");
        CHECK.due("comes as the root", empty.comes(1, 1, 1, 0), 10);
        CHECK.due("comes as the root", empty.comes(1, 1, 1, 1), -1);
        for (int i = 0; i < 40; i++) {
            CHECK.due("add", empty.add(i, 0, 0), i);
        }
        ScaleNets like = Check.of("set by most;point a at 0 0 0;point e at 12 0 0;");
        CHECK.due("comes nearer to one of its own level", like.comes(13, 10, 0, 0), 3);
        CHECK.due("comes nearer to one of its own level", like.comes(13, 10, 0, 1), 0);
        CHECK.due("comes as the 41st", empty.comes(1, 1, 1, 0), -1);
        CHECK.due("comes is not refused", x.status(2), 0);
    }

    private static void goes() {
        ScaleNets x = Check.of(Check.FOUR);
        String ahead = Edges.points(x);
        int[][] want = {{2, 2, 3}, {1, 1, 0}, {0, 0, 0}, {0, 0, 0}};
        for (int p = 0; p < 4; p++) {
            for (int what = 0; what < 3; what++) {
                CHECK.due("goes(" + p + ", " + what + ")", x.goes(p, what), want[p][what]);
            }
            CHECK.due("goes(p, 3)", x.goes(p, 3), -1);
            CHECK.due("goes(p, -1)", x.goes(p, -1), -1);
        }
        CHECK.due("goes(4, 2)", x.goes(4, 2), -1);
        CHECK.due("goes(-1, 0)", x.goes(-1, 0), -1);
        CHECK.same("goes", Edges.points(x), ahead);
        ScaleNets one = Check.of("set by sum;point a at 1 1 1;");
        CHECK.due("the last one goes", one.goes(0, 0), 0);
        CHECK.due("the last one goes", one.goes(0, 1), 0);
        CHECK.due("the last one goes", one.goes(0, 2), -1);
    }

    private static void anew() {
        ScaleNets x = Check.of(Check.FOUR);
        CHECK.due("anew(0)", x.anew(0), 0);
        CHECK.due("anew(1)", x.anew(1), 0);
        x.drop(0);
        String ahead = Edges.points(x);
        CHECK.due("anew(0) behind the root went", x.anew(0), 2);
        CHECK.due("anew(1) behind the root went", x.anew(1), 2);
        CHECK.due("anew(2)", x.anew(2), -1);
        CHECK.due("anew(-1)", x.anew(-1), -1);
        CHECK.same("anew", Edges.points(x), ahead);
        ScaleNets y = Check.of(Check.FOUR);
        y.drop(1);
        y.add(3, 0, 0);
        // c rose to 2, b is below it at 0; anew b is of 1 below a, and c of 0 below b.
        CHECK.due("anew(0) to level 0", y.anew(0), 2);
        CHECK.due("anew(1) to level 0", y.anew(1), 2);
        CHECK.due("anew without a set", new ScaleNets().anew(0), 0);
        CHECK.due("anew without a set", new ScaleNets().anew(1), 0);
    }

    private static int see(ScaleNets x, int... bytes) {
        Check.tape(x, bytes);
        return x.see();
    }

    private static void fits(ScaleNets x, String when, int... want) {
        CHECK.due("fits(NONE) " + when, x.fits(-1), want.length);
        for (int k = 0; k < 4; k++) {
            CHECK.due("fits(" + k + ") " + when, x.fits(k), k < want.length ? want[k] : -1);
        }
        CHECK.due("fits(-2) " + when, x.fits(-2), -1);
    }

    private static void tells(ScaleNets x, String when, int less, int other, int left) {
        CHECK.due("tells(0) " + when, x.tells(0), less);
        CHECK.due("tells(1) " + when, x.tells(1), other);
        CHECK.due("tells(2) " + when, x.tells(2), left);
        CHECK.due("tells(3) " + when, x.tells(3), -1);
        CHECK.due("tells(-1) " + when, x.tells(-1), -1);
    }

    private static void sees() {
        ScaleNets x = Check.of(Check.FOUR);
        fits(x, "with nothing seen", 0, 1, 2);
        tells(x, "with nothing seen", 1, 3, 1);
        CHECK.due("a row", see(x, 0, 1, 0, 3), 1);
        fits(x, "by sum or most", 0, 1);
        tells(x, "by sum or most", 1, 3, 1);
        CHECK.due("a row", see(x, 1, 0, 0, 2), 1);
        fits(x, "by bits", 2);
        tells(x, "by bits", 0, 1, 1);
        CHECK.due("two rows", see(x, 0, 1, 0, 3, 1, 3, 0, 9), 2);
        fits(x, "by most", 1);
        CHECK.due("has(4)", x.has(4), 2);
        CHECK.due("a row of a great number", see(x, 0, 1, 1, 3), 1);
        fits(x, "by none");
        tells(x, "by none", -1, -1, -1);
        x.drop(1);
        CHECK.due("fits(2), asked first", x.fits(2), 2);
        fits(x, "when the point is gone", 0, 1, 2);
        // Left are a, c, d: by none of the pairs of a is it told, by c and d it is 13, 9 or 3.
        tells(x, "when the point is gone", 2, 3, 1);
        CHECK.due("has(4) when the point is gone", x.has(4), 1);
        x.undo();
        fits(x, "when it is there again");
        x.move(1, 255, 4, 0);
        fits(x, "when it moved to where it is 259 far", 0);
    }

    private static void seesNot() {
        ScaleNets x = Check.of(Check.FOUR);
        CHECK.due("a row", see(x, 1, 3, 0, 9), 1);
        int[][] none = {{}, {0, 1, 0}, {0, 1, 0, 3, 1}, {0, 0, 0, 0}, {0, 4, 0, 3}, {4, 0, 0, 3}, {0, 255, 0, 3},
            {0, 1, 0, 3, 2, 2, 0, 0}};
        for (int[] row : none) {
            CHECK.due("none such", see(x, row), -1);
        }
        CHECK.due("status(1)", x.status(1), none.length);
        CHECK.due("has(4): all stays", x.has(4), 1);
        fits(x, "as all stays", 1);
        int[] rows = new int[52];
        for (int i = 0; i < 13; i++) {
            rows[4 * i + 1] = 3;
            rows[4 * i + 3] = 9;
        }
        CHECK.due("13 rows", see(x, rows), -1);
        CHECK.due("12 rows", see(x, java.util.Arrays.copyOf(rows, 48)), 12);
        fits(x, "by 12 rows", 0, 1);
        CHECK.due("the tape went", x.feed(0, 0, 0, 0, 0), 20);
        ScaleNets fresh = new ScaleNets();
        CHECK.due("see without a set", see(fresh, 0, 1, 0, 3), -1);
        CHECK.due("fits without a set", fresh.fits(-1), -1);
        CHECK.due("fits without a set", fresh.fits(0), -1);
        CHECK.due("tells without a set", fresh.tells(2), -1);
        ScaleNets one = Check.of("set by most;point a at 1 1 1;");
        fits(one, "with one point", 0, 1, 2);
        tells(one, "with one point", -1, -1, -1);
        // By no pair is one of the three left alone for sure: the first pair is told, with all three.
        ScaleNets like = Check.of("set by most;point a at 0 0 0;point b at 1 0 0;");
        tells(like, "by one step", 0, 1, 3);
    }

    public static void main(String[] args) {
        comes();
        goes();
        anew();
        sees();
        seesNot();
        CHECK.finish();
    }
}
