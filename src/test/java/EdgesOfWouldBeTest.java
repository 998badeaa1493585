import java.util.Arrays;

/** Promises 31 to 36 at their edges: what would be (COMES, GOES, ANEW), what was SEEN, FITS, TELLING. */
public final class EdgesOfWouldBeTest {
    private static final Check CHECK = new Check("EdgesOfWouldBeTest");
    private static final String ONE = "set by sum;point a at 0 0 0;";
    private static final int[] NO_K_OF_THREE = {-2, 3, Integer.MIN_VALUE, Integer.MAX_VALUE};

    private static void row(String what, int[] got, int... want) {
        CHECK.same(what, Arrays.toString(got), Arrays.toString(want));
    }

    private static int[] comes(ScaleNets x, int... at) {
        return new int[] {x.comes(at[0], at[1], at[2], 0), x.comes(at[0], at[1], at[2], 1)};
    }

    private static int[] goes(ScaleNets x, int point) {
        return new int[] {x.goes(point, 0), x.goes(point, 1), x.goes(point, 2)};
    }

    private static int see(ScaleNets x, int... bytes) {
        Check.tape(x, bytes);
        return x.see();
    }

    private static int[] rows(int many, int... row) {
        int[] all = new int[4 * many];
        for (int i = 0; i < all.length; i++) {
            all[i] = row[i % 4];
        }
        return all;
    }

    private static int[] fits(ScaleNets x) {
        return new int[] {x.fits(-1), x.fits(0), x.fits(1), x.fits(2), x.fits(3)};
    }

    private static int[] tells(ScaleNets x) {
        return new int[] {x.tells(0), x.tells(1), x.tells(2)};
    }

    // ---- 31

    static void promise31_comes_withoutASet() {
        row("comes", comes(new ScaleNets(), 0, 0, 0), -1, -1);
    }

    static void promise31_comes_itWouldBeTheRoot() {
        row("comes", comes(Edges.empty("bits"), 0, 0, 0), 10, -1);
        ScaleNets x = Check.of(ONE);
        x.drop(0);
        row("comes where the last was", comes(x, 0, 0, 0), 10, -1);
    }

    static void promise31_comes_whereOneIs() {
        ScaleNets x = Check.of(Check.FOUR);
        row("comes at the root's", comes(x, 0, 0, 0), -1, -1);
        row("comes at the last one's", comes(x, 0, 9, 0), -1, -1);
        row("comes beside it", comes(x, 0, 9, 1), 0, 3);
    }

    static void promise31_comes_noSuchPlace() {
        ScaleNets x = Check.of(Check.FOUR);
        ScaleNets empty = Edges.empty("sum");
        for (int number : Edges.NO_COORDINATE) {
            for (int[] at : Edges.placesWith(number)) {
                row("comes" + Arrays.toString(at), comes(x, at), -1, -1);
                row("comes" + Arrays.toString(at) + " without points", comes(empty, at), -1, -1);
            }
        }
        row("comes at a corner", comes(x, 255, 255, 255), 9, 0);
    }

    static void promise31_comes_theFortiethCanA41stCannot() {
        ScaleNets x = Check.of(Edges.fortyPoints());
        row("comes as the 41st", comes(x, 0, 1, 0), -1, -1);
        x.drop(39);
        row("comes as the 40th", comes(x, 0, 1, 0), 0, 0);
    }

    static void promise31_comes_levelJustBelowAndJustAtEachPowerOfTwo() {
        ScaleNets x = Check.of(ONE);
        for (int k = 1; k <= 9; k++) {
            int[] below = place((1 << k) - 1);
            int[] at = place(1 << k);
            row("comes at FAR " + ((1 << k) - 1), comes(x, below), k - 1, 0);
            row("comes at FAR " + (1 << k), comes(x, at), k, 0);
        }
    }

    private static int[] place(int d) {
        return new int[] {Math.min(255, d), Math.min(255, Math.max(0, d - 255)), Math.max(0, d - 510)};
    }

    static void promise31_comes_ofLikeNearParentsTheLeastNumber() {
        ScaleNets x = Check.of("set by most;point x at 200 200 200;point a at 0 0 0;");
        x.drop(0);
        x.add(20, 0, 0);
        row("comes as near to 0 as to the root, 1", comes(x, 10, 0, 0), 3, 0);
        row("comes one step nearer to 1", comes(x, 9, 0, 0), 3, 1);
    }

    static void promise31_comes_theParentIsOfTheNetOfOneLevelUp() {
        // e is nearest, but of its own LEVEL, 3; of the NET of 4 is a alone.
        ScaleNets x = Check.of("set by most;point a at 0 0 0;point e at 12 0 0;");
        CHECK.due("level of e", x.point(1, 3), 3);
        row("comes", comes(x, 13, 10, 0), 3, 0);
    }

    static void promise31_comes_belowTheLastNumber() {
        row("comes beside d, 39", comes(Edges.fourAt(36, 37, 38, 39), 0, 10, 0), 0, 39);
        row("comes beside a, 39", comes(Edges.fourAt(39, 38, 37, 36), 1, 0, 0), 0, 39);
    }

    static void promise31_comes_otherWhats() {
        ScaleNets x = Check.of(Check.FOUR);
        CHECK.each("comes(9, 9, 9, what)", Edges.noWhat(1), what -> x.comes(9, 9, 9, what), -1);
        CHECK.each("comes(9, 9, 9, what) without points", Edges.noWhat(1), what -> Edges.empty("sum").comes(9, 9, 9, what), -1);
    }

    static void promise31_comes_leavesAllAndIsNotRefused() {
        Edges.leavesAll(CHECK, "comes", Edges.rich(), 0, x -> x.comes(0, 9, 1, 0));
        Edges.leavesAll(CHECK, "comes where one is", Edges.rich(), -1, x -> x.comes(0, 9, 0, 0));
    }

    // ---- 32

    static void promise32_goes_theLastOne() {
        row("goes", goes(Check.of(ONE), 0), 0, 0, -1);
    }

    static void promise32_goes_oneWithoutChildren() {
        ScaleNets x = Check.of(Check.FOUR);
        row("c", goes(x, 2), 0, 0, 0);
        row("d", goes(x, 3), 0, 0, 0);
        row("the last of forty", goes(Edges.star(), 39), 0, 0, 0);
    }

    static void promise32_goes_theRoot() {
        // d is the ROOT then, b rises to 3 with d as its PARENT, c stays with b.
        row("a", goes(Check.of(Check.FOUR), 0), 2, 2, 3);
        ScaleNets star = Edges.star();
        CHECK.due("all of the star have another parent", star.goes(0, 0), 39);
        CHECK.due("the root of the star then", star.goes(0, 2), 1);
        row("the root, 1, and number 0 is left", goes(Edges.rootIsOne(20, 0, 0), 1), 1, 1, 0);
    }

    static void promise32_goes_anotherParentButNotAnotherLevel() {
        // p is 1 from g and from s: nearer than 2 to one of the NET of 1, with g and without.
        ScaleNets x = Check.of("set by most;point r at 0 0 0;point g at 3 0 0;point s at 2 2 0;point p at 3 1 0;");
        CHECK.due("parent of p", x.point(3, 4), 1);
        row("g", goes(x, 1), 1, 0, 0);
    }

    static void promise32_goes_justAt2ToTheLevelOneRises() {
        ScaleNets x = Check.of("set by most;point r at 0 0 0;point g at 3 0 0;point p at 2 0 0;");
        CHECK.due("parent of p", x.point(2, 4), 1);
        row("g: r is just 2 from p", goes(x, 1), 1, 1, 0);
    }

    static void promise32_goes_ofTheLastNumbers() {
        row("a, and d, 39, is the root", goes(Edges.fourAt(36, 37, 38, 39), 36), 2, 2, 39);
        row("a, 39", goes(Edges.fourAt(39, 38, 37, 36), 39), 2, 2, 36);
        row("b, and c, 39, rises", goes(Edges.fourAt(36, 37, 39, 38), 37), 1, 1, 36);
    }

    static void promise32_goes_noSuchPoint() {
        ScaleNets x = Check.of(Check.FOUR);
        for (int p : Edges.NO_POINT_OF_FOUR) {
            row("goes(" + p + ", ..)", goes(x, p), -1, -1, -1);
        }
        x.drop(1);
        row("goes of one that went", goes(x, 1), -1, -1, -1);
        row("goes of a new object", goes(new ScaleNets(), 0), -1, -1, -1);
    }

    static void promise32_goes_otherWhats() {
        ScaleNets x = Check.of(Check.FOUR);
        CHECK.each("goes(0, what)", Edges.noWhat(2), what -> x.goes(0, what), -1);
    }

    static void promise32_goes_leavesAllAndIsNotRefused() {
        Edges.leavesAll(CHECK, "goes(0, 2)", Edges.rich(), 4, x -> x.goes(0, 2));
        Edges.leavesAll(CHECK, "goes(39, 2)", Edges.rich(), -1, x -> x.goes(39, 2));
    }

    // ---- 33

    static void promise33_anew_withoutPoints() {
        for (ScaleNets x : new ScaleNets[] {new ScaleNets(), Edges.empty("sum")}) {
            CHECK.due("anew(0)", x.anew(0), 0);
            CHECK.due("anew(1)", x.anew(1), 0);
        }
    }

    static void promise33_anew_asToldIsAsLaid() {
        for (String text : new String[] {ONE, Check.FOUR, Edges.CHAIN, Edges.fortyPoints()}) {
            ScaleNets x = Check.of(text);
            CHECK.due("anew(0)", x.anew(0), 0);
            CHECK.due("anew(1)", x.anew(1), 0);
        }
    }

    static void promise33_anew_anotherRoot() {
        ScaleNets x = Check.of(Check.FOUR);
        x.drop(0);
        // d is the ROOT with b of LEVEL 3; anew b is, and d of LEVEL 3. c stays with b.
        CHECK.due("anew(0)", x.anew(0), 2);
        CHECK.due("anew(1)", x.anew(1), 2);
        ScaleNets one = Edges.rootIsOne(20, 0, 0);
        CHECK.due("anew(0), number 0 and the root, 1", one.anew(0), 2);
        CHECK.due("anew(1), number 0 and the root, 1", one.anew(1), 2);
    }

    static void promise33_anew_ofTheLastNumber() {
        // Anew d, 36, is the root, c, 37, of LEVEL 3 below it; below c are b, 38, of 0 and a, 39, of 2.
        ScaleNets x = Edges.fourAt(39, 38, 37, 36);
        CHECK.due("anew(0)", x.anew(0), 4);
        CHECK.due("anew(1)", x.anew(1), 4);
    }

    static void promise33_anew_toLevel0() {
        ScaleNets x = Check.of(Check.FOUR);
        x.drop(1);
        x.add(3, 0, 0);
        // c rose to 2 and b came below it at 0; anew b is of 1 below a, and c of 0 below b.
        CHECK.due("level of b", x.point(1, 3), 0);
        CHECK.due("level of c", x.point(2, 3), 2);
        CHECK.due("anew(0)", x.anew(0), 2);
        CHECK.due("anew(1)", x.anew(1), 2);
    }

    static void promise33_anew_otherWhats() {
        CHECK.each("anew", Edges.noWhat(1), Check.of(Check.FOUR)::anew, -1);
        CHECK.each("anew", Edges.noWhat(1), new ScaleNets()::anew, -1);
    }

    static void promise33_anew_leavesAllAndIsNotRefused() {
        ScaleNets x = Edges.rich();
        x.drop(0);
        Edges.leavesAll(CHECK, "anew(2)", x, -1, y -> y.anew(2));
        int others = x.anew(0);
        CHECK.due("some would have another level", others > 0, true);
        Edges.leavesAll(CHECK, "anew(0)", x, others, y -> y.anew(0));
    }

    // ---- 34

    static void promise34_see_oneToTwelveRows() {
        ScaleNets x = Check.of(Check.FOUR);
        CHECK.due("1 row", see(x, 0, 1, 0, 3), 1);
        CHECK.due("has(4)", x.has(4), 1);
        CHECK.due("12 rows", see(x, rows(12, 0, 1, 0, 3)), 12);
        CHECK.due("has(4)", x.has(4), 12);
        CHECK.due("status(1)", x.status(1), 0);
    }

    static void promise34_see_noneAnd13RowsAreRefused() {
        Edges.refusedOfRich(CHECK, "see() of an empty tape", 1, -1, EdgesOfWouldBeTest::seeNothing);
        Edges.refusedOfRich(CHECK, "see() of 13 rows", 1, -1, x -> see(x, rows(13, 0, 1, 0, 3)));
        Edges.refusedOfRich(CHECK, "see() of 400 rows", 1, -1, x -> see(x, rows(400, 0, 1, 0, 3)));
    }

    private static int seeNothing(ScaleNets x) {
        return see(x);
    }

    static void promise34_see_rowsOfFourBytes() {
        for (int bytes : new int[] {1, 2, 3, 5, 7, 47, 49}) {
            Edges.refusedOfRich(CHECK, "see() of " + bytes + " bytes", 1, -1,
                    x -> see(x, Arrays.copyOf(rows(13, 0, 1, 0, 3), bytes)));
        }
    }

    static void promise34_see_twoPointsUnlike() {
        Edges.refusedOfRich(CHECK, "see() of one and itself", 1, -1, x -> see(x, 1, 1, 0, 0));
        Edges.refusedOfRich(CHECK, "see() of one and itself in a last row", 1, -1, x -> see(x, 0, 1, 0, 3, 2, 2, 0, 0));
        CHECK.due("either first", see(Check.of(Check.FOUR), 0, 1, 0, 3, 1, 0, 0, 3), 2);
    }

    static void promise34_see_twoPointsThatThereAre() {
        for (int p : new int[] {5, 39, 40, 128, 255}) {
            Edges.refusedOfRich(CHECK, "see() of 0 and " + p, 1, -1, x -> see(x, 0, p, 0, 3));
            Edges.refusedOfRich(CHECK, "see() of " + p + " and 0", 1, -1, x -> see(x, p, 0, 0, 3));
        }
        Edges.refusedOfRich(CHECK, "see() of none in a last row", 1, -1, x -> see(x, 0, 1, 0, 9, 0, 5, 0, 3));
        CHECK.due("the last of forty", see(Check.of(Edges.fortyPoints()), 39, 0, 0, 39), 1);
    }

    static void promise34_see_withoutPoints() {
        for (ScaleNets x : new ScaleNets[] {new ScaleNets(), Edges.empty("sum")}) {
            CHECK.due("see() of a row", see(x, 0, 1, 0, 3), -1);
            CHECK.due("see() of nothing", see(x), -1);
            CHECK.due("status(1)", x.status(1), 2);
            CHECK.due("has(4)", x.has(4), 0);
        }
    }

    static void promise34_see_numbersFrom0To65535() {
        ScaleNets x = Check.of(Check.FOUR);
        CHECK.due("0", see(x, 0, 1, 0, 0), 1);
        CHECK.due("fits(NONE)", x.fits(-1), 0);
        CHECK.due("65535", see(x, 0, 1, 255, 255), 1);
        CHECK.due("fits(NONE)", x.fits(-1), 0);
    }

    static void promise34_see_theHigherByteFirst() {
        ScaleNets x = Check.of("set by sum;point a at 0 0 0;point b at 255 4 0;");
        CHECK.due("1, 3: 259", see(x, 0, 1, 1, 3), 1);
        row("fits", fits(x), 1, 0, -1, -1, -1);
        CHECK.due("0, 255", see(x, 0, 1, 0, 255), 1);
        row("fits", fits(x), 1, 1, -1, -1, -1);
        CHECK.due("3, 1: 769", see(x, 0, 1, 3, 1), 1);
        row("fits", fits(x), 0, -1, -1, -1, -1);
        CHECK.due("0, 3", see(x, 0, 1, 0, 3), 1);
        row("fits: 259 is not 3", fits(x), 0, -1, -1, -1, -1);
        CHECK.due("0, 9: by bits", see(x, 0, 1, 0, 9), 1);
        row("fits", fits(x), 1, 2, -1, -1, -1);
    }

    static void promise34_see_rowsTakeThePlaceOfThoseSeen() {
        ScaleNets x = Check.of(Check.FOUR);
        see(x, rows(12, 0, 1, 9, 9));
        CHECK.due("see()", see(x, 0, 1, 0, 2), 1);
        row("fits by the new row alone", fits(x), 1, 2, -1, -1, -1);
    }

    static void promise34_see_theTapeGoes() {
        ScaleNets x = Check.of(Check.FOUR);
        see(x, 0, 1, 0, 3);
        CHECK.due("feed behind rows", x.feed(0, 0, 0, 0, 0), 20);
        see(x, 0, 0, 0, 3);
        CHECK.due("feed behind none such", x.feed(0, 0, 0, 0, 0), 20);
    }

    // ---- 35

    static void promise35_fits_withoutASet() {
        row("fits", fits(new ScaleNets()), -1, -1, -1, -1, -1);
    }

    static void promise35_fits_allIfNothingIsSeen() {
        row("fits", fits(Check.of(Check.FOUR)), 3, 0, 1, 2, -1);
        row("fits without points", fits(Edges.empty("most")), 3, 0, 1, 2, -1);
    }

    static void promise35_fits_theKthWithoutTheirNumberAhead() {
        ScaleNets x = Check.of(Check.FOUR);
        see(x, 0, 1, 0, 2);
        CHECK.due("fits(0)", x.fits(0), 2);
        x.drop(1);
        CHECK.due("fits(0) behind a drop", x.fits(0), 0);
        CHECK.due("fits(2) behind a drop", x.fits(2), 2);
    }

    static void promise35_fits_noSuchK() {
        ScaleNets x = Check.of(Check.FOUR);
        CHECK.each("fits", NO_K_OF_THREE, x::fits, -1);
        see(x, 0, 1, 0, 2);
        row("fits", fits(x), 1, 2, -1, -1, -1);
    }

    static void promise35_fits_none() {
        ScaleNets x = Check.of(Check.FOUR);
        see(x, 0, 1, 0, 3, 0, 1, 0, 2);
        row("fits", fits(x), 0, -1, -1, -1, -1);
    }

    static void promise35_fits_byEveryRow() {
        ScaleNets x = Check.of(Check.FOUR);
        int[] twelve = rows(12, 0, 1, 0, 3);
        see(x, twelve);
        row("fits", fits(x), 2, 0, 1, -1, -1);
        twelve[44] = 1;
        twelve[45] = 3;
        twelve[47] = 12;
        see(x, twelve);
        row("fits with another last row", fits(x), 1, 0, -1, -1, -1);
    }

    static void promise35_fits_rowsOfPointsThatAreNoneByNow() {
        ScaleNets x = Check.of(Check.FOUR);
        see(x, 0, 1, 9, 9);
        x.drop(1);
        row("fits, the other one went", fits(x), 3, 0, 1, 2, -1);
        x.undo();
        row("fits, it is there again", fits(x), 0, -1, -1, -1, -1);
        x.drop(0);
        row("fits, the first one went", fits(x), 3, 0, 1, 2, -1);
        see(x, 1, 3, 0, 12);
        x.drop(1);
        x.drop(3);
        row("fits, both went", fits(x), 3, 0, 1, 2, -1);
    }

    static void promise35_fits_isAskedOfThePlacesByNow() {
        ScaleNets x = Check.of(Check.FOUR);
        see(x, 0, 1, 0, 3);
        row("fits", fits(x), 2, 0, 1, -1, -1);
        x.move(1, 7, 0, 0);
        row("fits: 7 by sum and most, 3 by bits", fits(x), 1, 2, -1, -1, -1);
        x.by(1);
        row("fits, whatever the measure is", fits(x), 1, 2, -1, -1, -1);
    }

    // ---- 36

    static void promise36_tells_fewerThanTwoPoints() {
        for (ScaleNets x : new ScaleNets[] {new ScaleNets(), Edges.empty("sum"), Check.of(ONE)}) {
            row("tells", tells(x), -1, -1, -1);
        }
    }

    static void promise36_tells_ofJustTwo() {
        row("three left", tells(Check.of("set by sum;point a at 0 0 0;point b at 1 0 0;")), 0, 1, 3);
        row("two left", tells(Check.of("set by sum;point a at 0 0 0;point b at 3 0 0;")), 0, 1, 2);
        row("one left", tells(Check.of("set by sum;point a at 3 0 0;point b at 0 9 0;")), 0, 1, 1);
    }

    static void promise36_tells_withoutFits() {
        ScaleNets x = Check.of(Check.FOUR);
        see(x, 0, 1, 9, 9);
        row("tells", tells(x), -1, -1, -1);
        x.drop(1);
        row("tells, the point of the row went", tells(x), 2, 3, 1);
    }

    static void promise36_tells_ofOneFitTheFirstPair() {
        ScaleNets x = Check.of(Check.FOUR);
        see(x, 1, 2, 0, 3);
        row("fits", fits(x), 1, 2, -1, -1, -1);
        row("tells", tells(x), 0, 1, 1);
        x.drop(0);
        row("tells without 0", tells(x), 1, 2, 1);
    }

    static void promise36_tells_ofLikePairsTheLessNumberThenTheOther() {
        // 1, 3 and 2, 3 tell alike, and all of 0 are of one line.
        row("tells", tells(Check.of(Check.FOUR)), 1, 3, 1);
        // 0, 2 and 0, 3 tell alike.
        row("tells", tells(Check.of("set by sum;point a at 0 0 0;point b at 1 0 0;point c at 3 9 0;point d at 9 3 0;")), 0, 2, 1);
    }

    static void promise36_tells_ofFitsAlone() {
        ScaleNets x = Check.of(Check.FOUR);
        see(x, 0, 1, 0, 3);
        // Sum and most are left: they are alike of 0 and 3, where bits would be unlike.
        row("tells", tells(x), 1, 3, 1);
        ScaleNets like = Check.of("set by sum;point a at 0 0 0;point b at 3 0 0;");
        see(like, 0, 1, 0, 3);
        row("two left of two", tells(like), 0, 1, 2);
        for (int far : new int[] {12, 9, 4}) {
            see(x, 1, 3, 0, far);
            CHECK.due("fits(NONE) by " + far, x.fits(-1), 1);
            row("one left of one, by " + far, tells(x), 0, 1, 1);
        }
    }

    static void promise36_tells_ofForty() {
        // In a row sum and most are alike of all; of 0 and 1 bits are, too, of 0 and 2 they are not.
        row("tells", tells(Check.of(Edges.fortyPoints())), 0, 2, 2);
    }

    static void promise36_tells_ofTheLastNumbers() {
        row("b and d", tells(Edges.fourAt(36, 37, 38, 39)), 37, 39, 1);
        row("c and d", tells(Edges.fourAt(36, 37, 39, 38)), 37, 38, 1);
    }

    static void promise36_tells_ofThoseThatAreThereByNow() {
        ScaleNets x = Check.of(Check.FOUR);
        x.drop(3);
        row("tells without 3", tells(x), 0, 1, 2);
        x.undo();
        x.drop(1);
        row("tells without 1", tells(x), 2, 3, 1);
    }

    static void promise36_tells_otherWhats() {
        CHECK.each("tells", Edges.noWhat(2), Check.of(Check.FOUR)::tells, -1);
    }

    public static void main(String[] args) throws ReflectiveOperationException {
        CHECK.runAll(EdgesOfWouldBeTest.class);
    }
}
