import java.util.Arrays;

/** Promises 24 to 30 at their edges: CENTERS, pairs, THINNED out, LINKS, GROUPS (Terms, III). */
public final class EdgesOfAllTogetherTest {
    private static final Check CHECK = new Check("EdgesOfAllTogetherTest");
    /** By most, each as far from each. */
    private static final String SQUARE =
            "set by most;point a at 0 0 0;point b at 10 0 0;point c at 0 10 0;point d at 10 10 0;";
    private static final String ONE = "set by sum;point a at 1 2 3;";
    private static final int[] NO_MANY_OF_FOUR = {0, -1, 5, 41, Integer.MIN_VALUE, Integer.MAX_VALUE};

    /** The square with number 1 as its root. */
    private static ScaleNets squareOfRoot1() {
        ScaleNets x = Check.of(SQUARE);
        x.drop(0);
        x.add(0, 0, 0);
        return x;
    }

    private static ScaleNets[] withoutPoints() {
        return new ScaleNets[] {new ScaleNets(), Edges.empty("sum")};
    }

    private static void row(String what, int[] got, int... want) {
        CHECK.same(what, Arrays.toString(got), Arrays.toString(want));
    }

    private static int[] centers(ScaleNets x, int n) {
        return new int[] {x.centers(n, 0), x.centers(n, 1), x.centers(n, 2)};
    }

    private static int[] pairs(ScaleNets x) {
        return new int[] {x.pair(0), x.pair(1), x.pair(2), x.pair(3), x.pair(4), x.pair(5)};
    }

    private static int[] link(ScaleNets x, int k) {
        return new int[] {x.link(k, 0), x.link(k, 1), x.link(k, 2)};
    }

    // ---- 24

    static void promise24_centers_from1ToAllPoints() {
        ScaleNets x = Check.of(Check.FOUR);
        row("centers(1, ..)", centers(x, 1), 9, 3, 4);
        row("centers(4, ..)", centers(x, 4), 0, 0, 1);
        for (int n : NO_MANY_OF_FOUR) {
            row("centers(" + n + ", ..)", centers(x, n), -1, -1, -1);
        }
    }

    static void promise24_centers_ofOneAndOfForty() {
        ScaleNets one = Check.of(ONE);
        row("centers(1, ..) of one", centers(one, 1), 0, 0, 1);
        row("centers(2, ..) of one", centers(one, 2), -1, -1, -1);
        ScaleNets forty = Check.of(Edges.fortyPoints());
        row("centers(1, ..) of forty", centers(forty, 1), 39, 39, 40);
        row("centers(2, ..) of forty", centers(forty, 2), 19, 19, 20);
        row("centers(40, ..) of forty", centers(forty, 40), 0, 0, 1);
        row("centers(41, ..) of forty", centers(forty, 41), -1, -1, -1);
    }

    static void promise24_centers_withoutPoints() {
        for (ScaleNets x : withoutPoints()) {
            row("centers(1, ..)", centers(x, 1), -1, -1, -1);
            row("centers(0, ..)", centers(x, 0), -1, -1, -1);
        }
    }

    static void promise24_centers_theFirstSuchPointOfLikeOnes() {
        row("centers(1, ..)", centers(Check.of(SQUARE), 1), 10, 1, 4);
        row("centers(1, ..) of root 1", centers(squareOfRoot1(), 1), 10, 0, 4);
    }

    static void promise24_centers_theCenterWithMostNeedNotBeTheRoot() {
        ScaleNets x = Check.of("set by most;point a at 0 0 0;point b at 99 0 0;point c at 100 0 0;point d at 98 0 0;");
        row("centers(2, ..)", centers(x, 2), 2, 3, 3);
    }

    static void promise24_centers_ofTheLastNumbers() {
        ScaleNets x = Edges.fourAt(36, 37, 38, 39);
        row("centers(1, ..)", centers(x, 1), 9, 39, 4);
        row("centers(2, ..)", centers(x, 2), 4, 38, 3);
        row("centers(4, ..): the first is 36", centers(x, 4), 0, 36, 1);
        row("centers(1, ..) of 39", centers(Edges.fourAt(39, 38, 37, 36), 1), 9, 36, 4);
    }

    static void promise24_centers_otherWhats() {
        ScaleNets x = Check.of(Check.FOUR);
        CHECK.each("centers(1, what)", Edges.noWhat(2), what -> x.centers(1, what), -1);
    }

    // ---- 25

    static void promise25_center_from1ToAllPoints() {
        ScaleNets x = Check.of(Check.FOUR);
        for (int p = 0; p < 4; p++) {
            int asked = p;
            CHECK.due("center(" + p + ", 1): the root", x.center(p, 1), 0);
            CHECK.due("center(" + p + ", 4): itself", x.center(p, 4), p);
            CHECK.each("center(" + p + ", n)", NO_MANY_OF_FOUR, n -> x.center(asked, n), -1);
        }
        ScaleNets forty = Check.of(Edges.fortyPoints());
        CHECK.due("center(39, 40) of forty", forty.center(39, 40), 39);
        CHECK.due("center(39, 41) of forty", forty.center(39, 41), -1);
    }

    static void promise25_center_ofLikeNearOnesTheLeastNumber() {
        CHECK.due("center(3, 2): 0 is the root", Check.of(SQUARE).center(3, 2), 0);
        ScaleNets x = squareOfRoot1();
        CHECK.due("the root", x.has(2), 1);
        CHECK.due("center(3, 2): 1 is ahead, 0 as near", x.center(3, 2), 0);
        CHECK.due("center(1, 2)", x.center(1, 2), 1);
        ScaleNets forty = Check.of(Edges.fortyPoints());
        CHECK.due("center(19, 2)", forty.center(19, 2), 0);
        CHECK.due("center(20, 2)", forty.center(20, 2), 39);
    }

    static void promise25_center_theLastNumber() {
        CHECK.due("center(37, 1)", Edges.fourAt(39, 38, 37, 36).center(37, 1), 39);
        CHECK.due("center(39, 2)", Edges.fourAt(36, 37, 38, 39).center(39, 2), 39);
    }

    static void promise25_center_ofNoPoint() {
        ScaleNets x = Check.of(Check.FOUR);
        CHECK.each("center(p, 1)", Edges.NO_POINT_OF_FOUR, p -> x.center(p, 1), -1);
        x.drop(2);
        CHECK.due("center of one that went", x.center(2, 1), -1);
        CHECK.due("center by as many as are left", x.center(3, 3), 3);
        CHECK.due("center by one more", x.center(3, 4), -1);
        for (ScaleNets none : withoutPoints()) {
            CHECK.due("center without points", none.center(0, 1), -1);
            CHECK.due("center without points", none.center(0, 0), -1);
        }
    }

    // ---- 26

    static void promise26_pair_fewerThanTwo() {
        for (ScaleNets x : new ScaleNets[] {new ScaleNets(), Edges.empty("sum"), Check.of(ONE)}) {
            row("pair", pairs(x), -1, -1, -1, -1, -1, -1);
        }
    }

    static void promise26_pair_ofJustTwoAndOfForty() {
        row("pair of two", pairs(Check.of("set by sum;point a at 0 0 0;point b at 255 255 255;")), 0, 1, 765, 0, 1, 765);
        row("pair of forty", pairs(Check.of(Edges.fortyPoints())), 0, 1, 1, 0, 39, 39);
        ScaleNets x = Check.of(Check.FOUR);
        x.drop(0);
        x.drop(1);
        row("pair of 2 and 3", pairs(x), 2, 3, 13, 2, 3, 13);
    }

    static void promise26_pair_ofLikePairsTheLessNumberThenTheOther() {
        row("all pairs alike", pairs(Check.of(SQUARE)), 0, 1, 10, 0, 1, 10);
        row("all pairs alike, another root", pairs(squareOfRoot1()), 0, 1, 10, 0, 1, 10);
        row("1, 2 and 3, 4; 0, 4 and 0, 5", pairs(Check.of("set by most;point a at 0 0 0;point b at 50 0 0;point c at 51 0 0;"
                + "point d at 100 0 0;point e at 101 0 0;point f at 101 50 0;")), 1, 2, 1, 0, 4, 101);
        row("0, 2 and 1, 2", pairs(Check.of("set by sum;point a at 0 0 0;point b at 20 0 0;point c at 10 0 0;")), 0, 2, 10, 0, 1, 20);
    }

    static void promise26_pair_ofTheLastNumbers() {
        row("b and c are closest", pairs(Edges.fourAt(36, 38, 39, 37)), 38, 39, 1, 37, 39, 13);
        row("c and d are widest", pairs(Edges.fourAt(36, 37, 38, 39)), 37, 38, 1, 38, 39, 13);
    }

    static void promise26_pair_ofThoseThatAreThereByNow() {
        ScaleNets x = Check.of(Check.FOUR);
        x.drop(2);
        row("pair without 2", pairs(x), 0, 1, 3, 1, 3, 12);
        x.drop(3);
        row("pair without 2 and 3", pairs(x), 0, 1, 3, 0, 1, 3);
        ScaleNets y = Check.of(Check.FOUR);
        y.drop(1);
        row("pair without 1", pairs(y), 0, 2, 4, 2, 3, 13);
        y.drop(3);
        row("pair without 1 and 3", pairs(y), 0, 2, 4, 0, 2, 4);
    }

    static void promise26_pair_otherWhats() {
        CHECK.each("pair", Edges.noWhat(5), Check.of(Check.FOUR)::pair, -1);
    }

    // ---- 27

    static void promise27_thin_theFirstTheLastAndTheOneBehind() {
        ScaleNets x = Check.of(Check.FOUR);
        CHECK.due("thin(0): the root", x.thin(0), 0);
        CHECK.due("thin(3)", x.thin(3), 1);
        CHECK.each("thin", Edges.noWhat(3), x::thin, -1);
        ScaleNets forty = Check.of(Edges.fortyPoints());
        CHECK.due("thin(1) of forty", forty.thin(1), 39);
        CHECK.due("thin(2) of forty: 19 and 20 are alike", forty.thin(2), 19);
        CHECK.due("thin(39) of forty", forty.thin(39), 38);
        CHECK.due("thin(40) of forty", forty.thin(40), -1);
    }

    static void promise27_thin_theRootFirstThenOfLikeOnesTheLeastNumber() {
        ScaleNets x = squareOfRoot1();
        row("thin", new int[] {x.thin(0), x.thin(1), x.thin(2), x.thin(3)}, 1, 0, 2, 3);
    }

    static void promise27_thin_theLeastFarFromAllAhead() {
        // c is 20 from the root and 1 from b, which is ahead of it; d is 10 from the root.
        ScaleNets x = Check.of("set by most;point a at 0 0 0;point b at 21 0 0;point c at 20 0 0;point d at 0 10 0;");
        row("thin", new int[] {x.thin(0), x.thin(1), x.thin(2), x.thin(3)}, 0, 1, 3, 2);
    }

    static void promise27_thin_number0NeedNotBeAhead() {
        ScaleNets x = Edges.rootIsOne(1, 0, 0);
        x.add(100, 0, 0);
        row("thin", new int[] {x.thin(0), x.thin(1), x.thin(2)}, 1, 2, 0);
    }

    static void promise27_thin_ofTheLastNumbers() {
        ScaleNets x = Edges.fourAt(36, 37, 39, 38);
        row("thin", new int[] {x.thin(0), x.thin(1), x.thin(2), x.thin(3)}, 36, 38, 39, 37);
        CHECK.due("thin(0) of 39", Edges.fourAt(39, 38, 37, 36).thin(0), 39);
    }

    static void promise27_thin_asThePointsAreByNow() {
        ScaleNets x = Check.of(Check.FOUR);
        CHECK.due("thin(1)", x.thin(1), 3);
        x.move(1, 0, 0, 200);
        CHECK.due("thin(1) behind a move", x.thin(1), 1);
        x.drop(1);
        row("thin behind a drop", new int[] {x.thin(0), x.thin(1), x.thin(2), x.thin(3)}, 0, 3, 2, -1);
    }

    static void promise27_thin_withoutPointsAndOfOne() {
        for (ScaleNets x : withoutPoints()) {
            CHECK.due("thin(0)", x.thin(0), -1);
        }
        ScaleNets one = Check.of(ONE);
        CHECK.due("thin(0) of one", one.thin(0), 0);
        CHECK.due("thin(1) of one", one.thin(1), -1);
    }

    // ---- 28

    static void promise28_link_oneFewerThanPoints() {
        ScaleNets x = Check.of(Check.FOUR);
        row("link(0, ..)", link(x, 0), 1, 2, 1);
        row("link(2, ..)", link(x, 2), 0, 3, 9);
        for (int k : new int[] {3, 4, -2, Integer.MIN_VALUE, Integer.MAX_VALUE}) {
            row("link(" + k + ", ..)", link(x, k), -1, -1, -1);
        }
        ScaleNets forty = Check.of(Edges.fortyPoints());
        row("link(38, ..) of forty", link(forty, 38), 38, 39, 1);
        row("link(39, ..) of forty", link(forty, 39), -1, -1, -1);
        CHECK.due("all together of forty", forty.link(-1, 0), 39);
    }

    static void promise28_link_allTogetherWhateverTheWhat() {
        ScaleNets x = Check.of(Check.FOUR);
        CHECK.each("link(NONE, what)", new int[] {0, 1, 2, 3, -1, Integer.MIN_VALUE, Integer.MAX_VALUE}, what -> x.link(-1, what), 13);
    }

    static void promise28_link_withoutPointsAndOfOne() {
        for (ScaleNets x : new ScaleNets[] {new ScaleNets(), Edges.empty("sum"), Check.of(ONE)}) {
            CHECK.due("link(NONE, 0)", x.link(-1, 0), 0);
            row("link(0, ..)", link(x, 0), -1, -1, -1);
        }
        row("link(0, ..) of two", link(Check.of("set by sum;point a at 0 0 0;point b at 255 255 255;"), 0), 0, 1, 765);
    }

    static void promise28_link_ofLikePairsTheLessNumberThenTheOther() {
        ScaleNets x = squareOfRoot1();
        for (int k = 0; k < 3; k++) {
            row("link(" + k + ", ..)", link(x, k), 0, k + 1, 10);
        }
        ScaleNets row = Check.of("set by sum;point a at 20 0 0;point b at 0 0 0;point c at 10 0 0;point d at 30 0 0;");
        row("link(0, ..) of a row", link(row, 0), 0, 2, 10);
        row("link(1, ..) of a row", link(row, 1), 0, 3, 10);
        row("link(2, ..) of a row", link(row, 2), 1, 2, 10);
    }

    static void promise28_link_pairsThatAreJoinedAlreadyAreNone() {
        // 0, 2 (11) is nearer than 2, 3 (30), but 0 and 2 are joined by 1.
        ScaleNets x = Check.of("set by sum;point a at 0 0 0;point b at 5 0 0;point c at 11 0 0;point d at 41 0 0;");
        row("link(2, ..)", link(x, 2), 2, 3, 30);
        CHECK.due("all together", x.link(-1, 0), 41);
    }

    static void promise28_link_asThePointsAreByNow() {
        ScaleNets x = Check.of(Check.FOUR);
        CHECK.due("all together", x.link(-1, 0), 13);
        x.drop(3);
        CHECK.due("all together behind a drop", x.link(-1, 0), 4);
        row("link(2, ..) behind a drop", link(x, 2), -1, -1, -1);
    }

    static void promise28_link_ofTheLastNumbers() {
        ScaleNets x = Edges.fourAt(36, 37, 38, 39);
        row("link(2, ..)", link(x, 2), 36, 39, 9);
        row("link(0, ..)", link(Edges.fourAt(36, 38, 39, 37), 0), 38, 39, 1);
        CHECK.due("all together", x.link(-1, 0), 13);
    }

    static void promise28_link_otherWhats() {
        ScaleNets x = Check.of(Check.FOUR);
        CHECK.each("link(0, what)", Edges.noWhat(2), what -> x.link(0, what), -1);
    }

    // ---- 29

    static void promise29_group_noLongerThanTheLength() {
        ScaleNets x = Check.of(Check.FOUR);
        CHECK.due("group(1, 2)", x.group(1, 2), 1);
        CHECK.due("group(1, 3): just so long", x.group(1, 3), 0);
        CHECK.due("group(3, 8)", x.group(3, 8), 3);
        CHECK.due("group(3, 9)", x.group(3, 9), 0);
    }

    static void promise29_group_lengthsFrom0To999() {
        ScaleNets x = Check.of(Check.FOUR);
        for (int p = 0; p < 4; p++) {
            CHECK.due("group(" + p + ", 0)", x.group(p, 0), p);
            CHECK.due("group(" + p + ", 999)", x.group(p, 999), 0);
        }
        CHECK.each("group(0, length)", Edges.NO_LENGTH, length -> x.group(0, length), -1);
        ScaleNets far = Check.of("set by sum;point a at 0 0 0;point b at 255 255 255;");
        CHECK.due("group(1, 764)", far.group(1, 764), 1);
        CHECK.due("group(1, 765)", far.group(1, 765), 0);
    }

    static void promise29_group_byLinksOverOthers() {
        ScaleNets x = Check.of(Edges.fortyPoints());
        CHECK.due("group(39, 1): over all between", x.group(39, 1), 0);
        x.drop(20);
        CHECK.due("group(39, 1) with a gap", x.group(39, 1), 21);
        CHECK.due("group(19, 1)", x.group(19, 1), 0);
        CHECK.due("group(39, 2)", x.group(39, 2), 0);
    }

    static void promise29_group_ofTheLastNumbers() {
        ScaleNets x = Edges.fourAt(36, 37, 38, 39);
        CHECK.due("group(39, 8)", x.group(39, 8), 39);
        CHECK.due("group(39, 9)", x.group(39, 9), 36);
        CHECK.due("groups(8)", x.groups(8), 2);
        CHECK.due("group(39, 1)", Edges.fourAt(36, 38, 39, 37).group(39, 1), 38);
    }

    static void promise29_group_ofNoPoint() {
        ScaleNets x = Check.of(Check.FOUR);
        CHECK.each("group(p, 5)", Edges.NO_POINT_OF_FOUR, p -> x.group(p, 5), -1);
        x.drop(1);
        CHECK.due("group of one that went", x.group(1, 5), -1);
        for (ScaleNets none : withoutPoints()) {
            CHECK.due("group without points", none.group(0, 0), -1);
        }
        CHECK.due("group of one alone", Check.of(ONE).group(0, 0), 0);
    }

    // ---- 30

    static void promise30_groups_noLongerThanTheLength() {
        ScaleNets x = Check.of(Check.FOUR);
        int[] lengths = {0, 1, 2, 3, 8, 9, 999};
        int[] many = {4, 3, 3, 2, 2, 1, 1};
        for (int i = 0; i < lengths.length; i++) {
            CHECK.due("groups(" + lengths[i] + ")", x.groups(lengths[i]), many[i]);
        }
        ScaleNets far = Check.of("set by sum;point a at 0 0 0;point b at 255 255 255;");
        CHECK.due("groups(764)", far.groups(764), 2);
        CHECK.due("groups(765)", far.groups(765), 1);
    }

    static void promise30_groups_asThePointsAreByNow() {
        ScaleNets x = Check.of(Check.FOUR);
        CHECK.due("groups(9)", x.groups(9), 1);
        x.drop(1);
        // Left are a, c and d: 4, 9 and 13 from one another.
        CHECK.due("groups(3) behind a drop", x.groups(3), 3);
        CHECK.due("groups(4) behind a drop", x.groups(4), 2);
        CHECK.due("groups(9) behind a drop", x.groups(9), 1);
        x.move(2, 100, 0, 0);
        CHECK.due("groups(9) behind a move", x.groups(9), 2);
        ScaleNets y = Check.of(Check.FOUR);
        CHECK.due("groups(9)", y.groups(9), 1);
        y.drop(1);
        y.move(3, 0, 200, 0);
        CHECK.due("groups(9) behind a drop and a move", y.groups(9), 2);
        CHECK.due("group(3, 9) behind a drop and a move", y.group(3, 9), 3);
    }

    static void promise30_groups_noSuchLength() {
        CHECK.each("groups", Edges.NO_LENGTH, Check.of(Check.FOUR)::groups, -1);
        CHECK.each("groups without points", Edges.NO_LENGTH, Edges.empty("sum")::groups, -1);
    }

    static void promise30_groups_withoutPointsAndOfForty() {
        for (ScaleNets x : withoutPoints()) {
            CHECK.due("groups(0)", x.groups(0), 0);
            CHECK.due("groups(999)", x.groups(999), 0);
        }
        CHECK.due("groups(0) of one", Check.of(ONE).groups(0), 1);
        ScaleNets forty = Check.of(Edges.fortyPoints());
        CHECK.due("groups(0) of forty", forty.groups(0), 40);
        CHECK.due("groups(1) of forty", forty.groups(1), 1);
    }

    public static void main(String[] args) throws ReflectiveOperationException {
        CHECK.runAll(EdgesOfAllTogetherTest.class);
    }
}
