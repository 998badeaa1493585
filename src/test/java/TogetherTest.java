/** Promises 24 to 30: centers, center, pair, thin, link, group, groups. */
public final class TogetherTest {
    private static final Check CHECK = new Check("TogetherTest");
    private static final String SQUARE =
            "set by most;point a at 0 0 0;point b at 10 0 0;point c at 0 10 0;point d at 10 10 0;";

    private static void centers() {
        ScaleNets x = Check.of(Check.FOUR);
        int[][] want = {{9, 3, 4}, {4, 2, 3}, {1, 1, 2}, {0, 0, 1}};
        for (int n = 1; n <= 4; n++) {
            for (int what = 0; what < 3; what++) {
                CHECK.due("centers(" + n + ", " + what + ")", x.centers(n, what), want[n - 1][what]);
            }
            CHECK.due("centers(n, 3)", x.centers(n, 3), -1);
            CHECK.due("centers(n, -1)", x.centers(n, -1), -1);
        }
        int[][] of = {{0, 0, 0, 0}, {0, 0, 0, 3}, {0, 2, 2, 3}, {0, 1, 2, 3}};
        for (int n = 1; n <= 4; n++) {
            for (int p = 0; p < 4; p++) {
                CHECK.due("center(" + p + ", " + n + ")", x.center(p, n), of[n - 1][p]);
            }
            CHECK.due("center of none", x.center(4, n), -1);
            CHECK.due("center of none", x.center(-1, n), -1);
        }
        for (int n : new int[] {0, -1, 5, 41, Integer.MAX_VALUE}) {
            CHECK.due("centers, no such n", x.centers(n, 0), -1);
            CHECK.due("center, no such n", x.center(0, n), -1);
        }
        CHECK.due("centers without points", new ScaleNets().centers(1, 0), -1);
        CHECK.due("centers of no n, without points", new ScaleNets().centers(0, 0), -1);
        CHECK.due("center of d by 2, like ones", Check.of(SQUARE).center(3, 2), 0);
        // The root is b, but of like ones a center of the less number has a point.
        ScaleNets y = Check.of(SQUARE);
        y.drop(0);
        y.add(0, 0, 0);
        CHECK.due("the root", y.has(2), 1);
        CHECK.due("center of d by 2", y.center(3, 2), 0);
        CHECK.due("center of b by 2", y.center(1, 2), 1);
        CHECK.due("the center with most by 2", y.centers(2, 2), 3);
        CHECK.due("the first that is farthest by 1", y.centers(1, 1), 0);
    }

    private static void thins() {
        ScaleNets x = Check.of(Check.FOUR);
        int[] order = {0, 3, 2, 1};
        for (int k = 0; k < 4; k++) {
            CHECK.due("thin(" + k + ")", x.thin(k), order[k]);
        }
        CHECK.due("thin(4)", x.thin(4), -1);
        CHECK.due("thin(-1)", x.thin(-1), -1);
        ScaleNets y = Check.of(SQUARE);
        y.drop(0);
        y.add(0, 0, 0);
        int[] like = {1, 0, 2, 3};
        for (int k = 0; k < 4; k++) {
            CHECK.due("thin(" + k + "), like ones", y.thin(k), like[k]);
        }
        y.move(0, 100, 0, 0);
        y.move(2, 10, 40, 0);
        int[] moved = {1, 0, 2, 3};
        for (int k = 0; k < 4; k++) {
            CHECK.due("thin(" + k + ") behind moves", y.thin(k), moved[k]);
        }
        y.move(3, 255, 0, 0);
        CHECK.due("thin(1) behind a move", y.thin(1), 3);
        CHECK.due("thin(2) behind a move", y.thin(2), 0);
        CHECK.due("thin without points", new ScaleNets().thin(0), -1);
    }

    private static void pairs() {
        ScaleNets x = Check.of(Check.FOUR);
        int[] want = {1, 2, 1, 2, 3, 13};
        ScaleNets y = Check.of(SQUARE);
        int[] like = {0, 1, 10, 0, 1, 10};
        ScaleNets z = Check.of("set by most;point a at 5 5 0;point b at 0 0 0;point c at 0 20 0;point d at 20 20 0;point e at 3 20 0;point f at 3 3 0;");
        int[] other = {0, 5, 2, 1, 2, 20};
        for (int what = 0; what < 6; what++) {
            CHECK.due("pair(" + what + ")", x.pair(what), want[what]);
            CHECK.due("pair(" + what + "), like ones", y.pair(what), like[what]);
            CHECK.due("pair(" + what + "), others", z.pair(what), other[what]);
        }
        CHECK.due("pair(6)", x.pair(6), -1);
        CHECK.due("pair(-1)", x.pair(-1), -1);
        ScaleNets two = Check.of("set by sum;point a at 1 1 1;point b at 1 2 3;");
        CHECK.due("pair of two", two.pair(1), 1);
        CHECK.due("pair of two", two.pair(5), 3);
        ScaleNets one = Check.of("set by sum;point a at 1 1 1;");
        CHECK.due("pair of one", one.pair(0), -1);
        CHECK.due("pair of one", one.pair(5), -1);
    }

    private static void links() {
        ScaleNets x = Check.of(Check.FOUR);
        int[][] want = {{1, 2, 1}, {0, 1, 3}, {0, 3, 9}};
        for (int k = 0; k < 3; k++) {
            for (int what = 0; what < 3; what++) {
                CHECK.due("link(" + k + ", " + what + ")", x.link(k, what), want[k][what]);
            }
            CHECK.due("link(k, 3)", x.link(k, 3), -1);
            CHECK.due("link(k, -1)", x.link(k, -1), -1);
        }
        CHECK.due("link(3, 0)", x.link(3, 0), -1);
        CHECK.due("link(-2, 0)", x.link(-2, 0), -1);
        CHECK.due("link(NONE, 0)", x.link(-1, 0), 13);
        CHECK.due("link(NONE, 77)", x.link(-1, 77), 13);
        CHECK.due("link(NONE, -5)", x.link(-1, -5), 13);
        ScaleNets y = Check.of(SQUARE);
        for (int k = 0; k < 3; k++) {
            CHECK.due("link, like ones", y.link(k, 0), 0);
            CHECK.due("link, like ones", y.link(k, 1), k + 1);
        }
        // A chain 0 - 1 - 2 - 3 told out of order: equal links by the less number, then the other.
        ScaleNets z = Check.of("set by sum;point a at 20 0 0;point b at 0 0 0;point c at 10 0 0;point d at 30 0 0;");
        int[][] chain = {{0, 2}, {0, 3}, {1, 2}};
        for (int k = 0; k < 3; k++) {
            CHECK.due("link of the chain", z.link(k, 0), chain[k][0]);
            CHECK.due("link of the chain", z.link(k, 1), chain[k][1]);
            CHECK.due("link of the chain", z.link(k, 2), 10);
        }
        z.move(3, 20, 0, 1);
        CHECK.due("links together behind a move", z.link(-1, 0), 21);
        z.move(3, 25, 0, 0);
        CHECK.due("link behind a move", z.link(0, 2), 5);
        ScaleNets one = Check.of("set by sum;point a at 1 1 1;");
        CHECK.due("link of one", one.link(0, 0), -1);
        CHECK.due("links of one together", one.link(-1, 0), 0);
        CHECK.due("links without points", new ScaleNets().link(-1, 0), 0);
    }

    private static void groups() {
        ScaleNets x = Check.of(Check.FOUR);
        int[] lengths = {0, 1, 2, 3, 8, 9, 999};
        int[] many = {4, 3, 3, 2, 2, 1, 1};
        int[][] least = {{0, 1, 2, 3}, {0, 1, 1, 3}, {0, 1, 1, 3}, {0, 0, 0, 3}, {0, 0, 0, 3}, {0, 0, 0, 0}, {0, 0, 0, 0}};
        for (int i = 0; i < lengths.length; i++) {
            CHECK.due("groups(" + lengths[i] + ")", x.groups(lengths[i]), many[i]);
            for (int p = 0; p < 4; p++) {
                CHECK.due("group(" + p + ", " + lengths[i] + ")", x.group(p, lengths[i]), least[i][p]);
            }
        }
        CHECK.due("group of none", x.group(4, 5), -1);
        CHECK.due("group of none", x.group(-1, 5), -1);
        CHECK.due("group, no length", x.group(0, -1), -1);
        CHECK.due("group, no length", x.group(0, 1000), -1);
        CHECK.due("groups, no length", x.groups(-1), -1);
        CHECK.due("groups, no length", x.groups(1000), -1);
        CHECK.due("groups without points", new ScaleNets().groups(999), 0);
        CHECK.due("groups without points, no length", new ScaleNets().groups(1000), -1);
        CHECK.due("group, asked first", Check.of(Check.FOUR).group(2, 1), 1);
        // Numbers need not be without gaps.
        x.drop(1);
        CHECK.due("groups behind a drop", x.groups(4), 2);
        CHECK.due("group behind a drop", x.group(2, 4), 0);
        CHECK.due("group of the one that went", x.group(1, 4), -1);
    }

    public static void main(String[] args) {
        centers();
        thins();
        pairs();
        links();
        groups();
        CHECK.finish();
    }
}
