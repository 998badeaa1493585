import java.util.Arrays;

/** Promises 6 and 9 to 16 at their edges: what there is, points, children, FAR, nets (Terms, II and III). */
public final class EdgesOfPointsTest {
    private static final Check CHECK = new Check("EdgesOfPointsTest");

    private static void has(ScaleNets x, String when, int... want) {
        int[] got = new int[7];
        for (int what = 0; what < 7; what++) {
            got[what] = x.has(what);
        }
        CHECK.same("has(..) " + when, Arrays.toString(got), Arrays.toString(want));
    }

    /** A root at 0 0 0 and a second point that is d FAR from it by sum. */
    private static ScaleNets twoBySum(int d) {
        int y = Math.min(255, Math.max(0, d - 255));
        return Check.of("set by sum;point r at 0 0 0;point p at " + Math.min(255, d) + " " + y + " " + Math.max(0, d - 510) + ";");
    }

    private static ScaleNets two(String measure, String place) {
        return Check.of("set by " + measure + ";point r at 0 0 0;point p at " + place + ";");
    }

    // ---- 6

    static void promise06_has_withoutASet() {
        has(new ScaleNets(), "of a new object", 0, -1, -1, -1, 0, 0, 1);
    }

    static void promise06_has_withASetButNoPoint() {
        has(Edges.empty("sum"), "by sum", 0, 0, -1, -1, 0, 0, 1);
        has(Edges.empty("most"), "by most", 0, 1, -1, -1, 0, 0, 1);
        has(Edges.empty("bits"), "by bits", 0, 2, -1, -1, 0, 0, 1);
    }

    static void promise06_has_noGreatestLevelOfTheRootAlone() {
        has(Check.of("set by sum;point a at 1 2 3;"), "of one", 1, 0, 0, -1, 0, 0, 1);
    }

    static void promise06_has_theLeastAndTheMostThatTheGreatestLevelCanBe() {
        CHECK.due("has(3) at FAR 1", twoBySum(1).has(3), 0);
        CHECK.due("has(3) at FAR 765", twoBySum(765).has(3), 9);
        CHECK.due("has(3) of number 0, not the root", Edges.rootIsOne(20, 0, 0).has(3), 4);
    }

    static void promise06_has_fortyPoints() {
        has(Check.of(Edges.fortyPoints()), "of forty", 40, 1, 0, 5, 0, 0, 1);
    }

    static void promise06_has_theRootThatWent() {
        ScaleNets x = two("most", "9 0 0");
        x.drop(0);
        has(x, "behind the root", 1, 1, 1, -1, 0, 1, 1);
        x.drop(1);
        has(x, "behind the last", 0, 1, -1, -1, 0, 2, 1);
    }

    static void promise06_has_rowsSeenFrom0To12() {
        ScaleNets x = Check.of(Check.FOUR);
        CHECK.due("has(4) of nothing", x.has(4), 0);
        int[] rows = new int[48];
        for (int i = 0; i < 12; i++) {
            rows[4 * i + 1] = 1;
        }
        Check.tape(x, Arrays.copyOf(rows, 4));
        x.see();
        CHECK.due("has(4) of one", x.has(4), 1);
        Check.tape(x, rows);
        x.see();
        CHECK.due("has(4) of twelve", x.has(4), 12);
        x.drop(1);
        CHECK.due("has(4) though a point of theirs went", x.has(4), 12);
    }

    static void promise06_has_actsThatCanBeUndoneFrom0To20() {
        ScaleNets x = Check.of(Check.FOUR);
        for (int i = 1; i <= 22; i++) {
            x.lay();
            CHECK.due("has(5) behind " + i, x.has(5), Math.min(20, i));
        }
        x.undo();
        CHECK.due("has(5) behind undo()", x.has(5), 19);
    }

    static void promise06_has_theSeedFrom0ToTheGreatest() {
        ScaleNets x = new ScaleNets();
        x.seed(0);
        CHECK.due("has(6)", x.has(6), 0);
        x.seed(Integer.MAX_VALUE);
        CHECK.due("has(6)", x.has(6), Integer.MAX_VALUE);
    }

    static void promise06_has_ofTheLastNumbers() {
        has(Edges.fourAt(36, 37, 38, 39), "36 to 39", 4, 0, 36, 3, 0, 0, 1);
        has(Edges.fourAt(39, 38, 37, 36), "39 to 36", 4, 0, 39, 3, 0, 0, 1);
    }

    static void promise06_has_otherWhats() {
        CHECK.each("has", Edges.noWhat(6), Check.of(Check.FOUR)::has, -1);
        CHECK.each("has", Edges.noWhat(6), new ScaleNets()::has, -1);
    }

    // ---- 9

    static void promise09_point_theFirstAndTheLastNumber() {
        ScaleNets x = Check.of(Edges.fortyPoints());
        CHECK.due("point(0, 0)", x.point(0, 0), 0);
        CHECK.due("point(39, 0)", x.point(39, 0), 39);
        CHECK.due("point(40, 0)", x.point(40, 0), -1);
        CHECK.due("point(-1, 0)", x.point(-1, 0), -1);
    }

    static void promise09_point_ofNoPoint() {
        ScaleNets x = Check.of(Check.FOUR);
        ScaleNets gap = Check.of(Check.FOUR);
        gap.drop(1);
        for (int what = 0; what < 7; what++) {
            int asked = what;
            CHECK.each("point(p, " + what + ")", Edges.NO_POINT_OF_FOUR, p -> x.point(p, asked), -1);
            CHECK.due("point(1, " + what + ") of one that went", gap.point(1, what), -1);
            CHECK.due("point(0, " + what + ") of a new object", new ScaleNets().point(0, what), -1);
        }
    }

    static void promise09_point_otherWhats() {
        ScaleNets x = Check.of(Check.FOUR);
        CHECK.each("point(0, what)", Edges.noWhat(6), what -> x.point(0, what), -1);
    }

    static void promise09_point_numbersOfAPlaceAre0To255() {
        ScaleNets x = Check.of("set by sum;point a at 0 255 0;point b at 255 0 255;");
        int[] want = {0, 255, 0};
        for (int what = 0; what < 3; what++) {
            CHECK.due("point(0, " + what + ")", x.point(0, what), want[what]);
            CHECK.due("point(1, " + what + ")", x.point(1, what), 255 - want[what]);
        }
    }

    static void promise09_point_levelJustBelowAndJustAtEachPowerOfTwo() {
        for (int k = 1; k <= 9; k++) {
            CHECK.due("level at FAR " + ((1 << k) - 1), twoBySum((1 << k) - 1).point(1, 3), k - 1);
            CHECK.due("level at FAR " + (1 << k), twoBySum(1 << k).point(1, 3), k);
        }
        CHECK.due("level at the most FAR", twoBySum(765).point(1, 3), 9);
        CHECK.due("parent at the most FAR", twoBySum(765).point(1, 4), 0);
    }

    static void promise09_point_levelByTheOtherMeasures() {
        CHECK.due("by most, 127", two("most", "127 127 127").point(1, 3), 6);
        CHECK.due("by most, 128", two("most", "0 128 0").point(1, 3), 7);
        CHECK.due("by most, 255", two("most", "255 255 255").point(1, 3), 7);
        CHECK.due("by bits, 1", two("bits", "0 0 128").point(1, 3), 0);
        CHECK.due("by bits, 15", two("bits", "127 255 0").point(1, 3), 3);
        CHECK.due("by bits, 16", two("bits", "255 0 255").point(1, 3), 4);
        CHECK.due("by bits, 24", two("bits", "255 255 255").point(1, 3), 4);
    }

    static void promise09_point_theRootIsTheOnlyOneOfLevel10() {
        ScaleNets x = Check.of(Edges.CHAIN);
        for (int p = 0; p < 11; p++) {
            CHECK.due("level of " + p, x.point(p, 3), 10 - p);
            CHECK.due("parent of " + p, x.point(p, 4), p - 1);
        }
    }

    /** p is 1 from q, but of LEVEL 0: of the NET of 1 only r is asked, which is 2 from q. */
    static void promise09_point_levelAsksThatNetAlone() {
        ScaleNets x = Check.of("set by most;point r at 0 0 0;point p at 1 0 0;point q at 2 0 0;");
        CHECK.due("level of p", x.point(1, 3), 0);
        CHECK.due("level of q", x.point(2, 3), 1);
        CHECK.due("parent of q", x.point(2, 4), 0);
    }

    /** e is nearest, but of c's own LEVEL; a is of the NET of one more. */
    static void promise09_point_parentIsOfTheNetOfOneLevelUp() {
        ScaleNets x = Check.of("set by most;point a at 0 0 0;point e at 12 0 0;point c at 13 10 0;");
        CHECK.due("level of e", x.point(1, 3), 3);
        CHECK.due("level of c", x.point(2, 3), 3);
        CHECK.due("parent of c", x.point(2, 4), 0);
        ScaleNets chain = Check.of(Edges.CHAIN);
        CHECK.due("a parent of just one level up", chain.point(chain.point(10, 4), 3), 1);
    }

    static void promise09_point_ofLikeNearOnesTheLeastNumberIsTheParent() {
        ScaleNets x = Edges.rootIsOne(20, 0, 0);
        CHECK.due("add", x.add(10, 0, 0), 2);
        CHECK.due("level of 2", x.point(2, 3), 3);
        CHECK.due("parent of 2: as near to the root, 1", x.point(2, 4), 0);
    }

    static void promise09_point_theRootHasNoParent() {
        CHECK.due("point(0, 4) of one", Check.of("set by sum;point a at 1 2 3;").point(0, 4), -1);
        CHECK.due("point(1, 4)", Edges.rootIsOne(20, 0, 0).point(1, 4), -1);
    }

    static void promise09_point_from0To39ChildrenAndBelow() {
        ScaleNets x = Edges.star();
        CHECK.due("has(0)", x.has(0), 40);
        CHECK.due("children of the root", x.point(0, 5), 39);
        CHECK.due("below the root", x.point(0, 6), 39);
        CHECK.due("children of the last", x.point(39, 5), 0);
        CHECK.due("below the last", x.point(39, 6), 0);
        CHECK.due("children of a root that is not 0", Edges.rootIsOne(20, 0, 0).point(1, 5), 1);
        CHECK.due("below a root that is not 0", Edges.rootIsOne(20, 0, 0).point(1, 6), 1);
    }

    static void promise09_point_belowReachesDownTenLevels() {
        ScaleNets x = Check.of(Edges.CHAIN);
        for (int p = 0; p < 11; p++) {
            CHECK.due("children of " + p, x.point(p, 5), p < 10 ? 1 : 0);
            CHECK.due("below " + p, x.point(p, 6), 10 - p);
        }
    }

    static void promise09_point_theLastNumberAsParentAndChild() {
        ScaleNets x = Edges.fourAt(39, 38, 37, 36);
        CHECK.due("children of 39", x.point(39, 5), 2);
        CHECK.due("below 39", x.point(39, 6), 3);
        CHECK.due("add beside it", x.add(1, 0, 0), 0);
        CHECK.due("parent of 0", x.point(0, 4), 39);
        ScaleNets y = Edges.fourAt(36, 37, 38, 39);
        CHECK.due("parent of 39", y.point(39, 4), 36);
        CHECK.due("add beside 39", y.add(0, 10, 0), 0);
        CHECK.due("parent of 0", y.point(0, 4), 39);
        CHECK.due("below 36", y.point(36, 6), 4);
    }

    // ---- 10

    static void promise10_at_theCornersOfAllPlaces() {
        ScaleNets x = Check.of("set by sum;point a at 0 0 0;point b at 255 255 255;point c at 255 0 0;point d at 0 0 255;");
        CHECK.due("at(0, 0, 0)", x.at(0, 0, 0), 0);
        CHECK.due("at(255, 255, 255)", x.at(255, 255, 255), 1);
        CHECK.due("at(255, 0, 0)", x.at(255, 0, 0), 2);
        CHECK.due("at(0, 0, 255)", x.at(0, 0, 255), 3);
        CHECK.due("at(0, 255, 0)", x.at(0, 255, 0), -1);
    }

    static void promise10_at_noSuchPlace() {
        ScaleNets x = Check.of("set by sum;point a at 0 0 0;point b at 255 255 255;");
        for (int number : Edges.NO_COORDINATE) {
            for (int[] at : Edges.placesWith(number)) {
                CHECK.due("at" + Arrays.toString(at), x.at(at[0], at[1], at[2]), -1);
            }
        }
    }

    static void promise10_at_256IsNoPlaceOfTheNextNumber() {
        ScaleNets x = Check.of("set by sum;point a at 0 1 0;point b at 1 0 0;point c at 0 255 255;point d at 255 255 255;");
        CHECK.due("at(0, 0, 256)", x.at(0, 0, 256), -1);
        CHECK.due("at(0, 256, 0)", x.at(0, 256, 0), -1);
        CHECK.due("at(0, 0, 65536)", x.at(0, 0, 65536), -1);
        CHECK.due("at(1, 0, -1)", x.at(1, 0, -1), -1);
        CHECK.due("at(-1, -1, -1)", x.at(-1, -1, -1), -1);
    }

    static void promise10_at_noneThere() {
        CHECK.due("at of a new object", new ScaleNets().at(0, 0, 0), -1);
        CHECK.due("at without points", Edges.empty("sum").at(0, 0, 0), -1);
        ScaleNets x = Check.of(Check.FOUR);
        CHECK.due("at one step beside", x.at(4, 0, 1), -1);
        x.drop(2);
        CHECK.due("at one that went", x.at(4, 0, 0), -1);
        x.move(1, 9, 9, 9);
        CHECK.due("at where one was", x.at(3, 0, 0), -1);
        CHECK.due("at where it is", x.at(9, 9, 9), 1);
        CHECK.due("at the last of forty", Check.of(Edges.fortyPoints()).at(39, 0, 0), 39);
    }

    // ---- 11

    static void promise11_child_theFirstTheLastAndTheOneBehind() {
        ScaleNets x = Edges.star();
        CHECK.due("child(0, 0)", x.child(0, 0), 1);
        CHECK.due("child(0, 38)", x.child(0, 38), 39);
        CHECK.each("child(0, k)", Edges.noWhat(38), k -> x.child(0, k), -1);
        CHECK.due("child(39, 0) of one without", x.child(39, 0), -1);
        CHECK.due("child(1, 0) that is number 0", Edges.rootIsOne(20, 0, 0).child(1, 0), 0);
    }

    static void promise11_child_theHighestLevelFirst() {
        ScaleNets x = Check.of(Check.FOUR);
        CHECK.due("child(0, 0): level 3, number 3", x.child(0, 0), 3);
        CHECK.due("child(0, 1): level 1, number 1", x.child(0, 1), 1);
        CHECK.due("child(0, 2)", x.child(0, 2), -1);
        ScaleNets nine = Check.of("set by sum;point r at 0 0 0;point p at 1 0 0;point q at 255 255 255;");
        CHECK.due("child(0, 0): level 9", nine.child(0, 0), 2);
        CHECK.due("child(0, 1): level 0", nine.child(0, 1), 1);
    }

    static void promise11_child_ofLikeLevelsByNumbers() {
        ScaleNets x = Edges.star();
        for (int k = 0; k < 39; k++) {
            CHECK.due("child(0, " + k + ")", x.child(0, k), k + 1);
        }
    }

    static void promise11_child_ofTheLastNumbers() {
        CHECK.due("child(36, 0)", Edges.fourAt(36, 37, 38, 39).child(36, 0), 39);
        CHECK.due("child(39, 0)", Edges.fourAt(39, 38, 37, 36).child(39, 0), 36);
        CHECK.due("child(39, 1)", Edges.fourAt(39, 38, 37, 36).child(39, 1), 38);
    }

    static void promise11_child_ofNoPoint() {
        ScaleNets x = Check.of(Check.FOUR);
        CHECK.each("child(p, 0)", Edges.NO_POINT_OF_FOUR, p -> x.child(p, 0), -1);
        CHECK.due("child of a new object", new ScaleNets().child(0, 0), -1);
        CHECK.due("child(NONE, 0): the root is nobody's", x.child(-1, 0), -1);
        x.drop(1);
        CHECK.due("child of one that went", x.child(1, 0), -1);
    }

    // ---- 12

    static void promise12_far_theLeastAndTheMostByEachMeasure() {
        String[] measures = {"sum", "most", "bits"};
        int[] most = {765, 255, 24};
        for (int m = 0; m < 3; m++) {
            ScaleNets x = Check.of("set by " + measures[m] + ";point a at 0 0 0;point b at 255 255 255;point c at 0 0 1;");
            CHECK.due("the most FAR by " + measures[m], x.far(0, 1), most[m]);
            CHECK.due("from the other side", x.far(1, 0), most[m]);
            CHECK.due("the least FAR by " + measures[m], x.far(0, 2), 1);
            CHECK.due("of one and itself", x.far(1, 1), 0);
        }
    }

    static void promise12_far_bitsAreNotDifferences() {
        CHECK.due("127 and 128 by bits", Check.of("set by bits;point a at 127 0 0;point b at 128 0 0;").far(0, 1), 8);
        CHECK.due("by sum", Check.of("set by sum;point a at 127 9 0;point b at 128 0 3;").far(0, 1), 13);
        CHECK.due("by most", Check.of("set by most;point a at 127 9 0;point b at 128 0 3;").far(0, 1), 9);
        CHECK.due("by most, the last number", Check.of("set by most;point a at 1 2 9;point b at 2 4 0;").far(0, 1), 9);
    }

    static void promise12_far_ofNoPoint() {
        ScaleNets x = Check.of(Check.FOUR);
        CHECK.each("far(p, 0)", Edges.NO_POINT_OF_FOUR, p -> x.far(p, 0), -1);
        CHECK.each("far(0, p)", Edges.NO_POINT_OF_FOUR, p -> x.far(0, p), -1);
        CHECK.each("far(p, p)", Edges.NO_POINT_OF_FOUR, p -> x.far(p, p), -1);
        CHECK.due("far of a new object", new ScaleNets().far(0, 0), -1);
        CHECK.due("far(0, 39) of forty", Check.of(Edges.fortyPoints()).far(0, 39), 39);
    }

    // ---- 13

    static void promise13_net_levels0And10() {
        ScaleNets x = Check.of(Edges.CHAIN);
        for (int level = 0; level <= 10; level++) {
            CHECK.due("net(" + level + ", NONE)", x.net(level, -1), 11 - level);
            CHECK.due("net(" + level + ", last)", x.net(level, 10 - level), 10 - level);
            CHECK.due("net(" + level + ", behind)", x.net(level, 11 - level), -1);
        }
        CHECK.each("net(level, NONE)", Edges.NO_LEVEL, level -> x.net(level, -1), -1);
        CHECK.each("net(level, 0)", Edges.NO_LEVEL, level -> x.net(level, 0), -1);
    }

    static void promise13_net_noSuchK() {
        ScaleNets x = Check.of(Check.FOUR);
        CHECK.each("net(0, k)", new int[] {-2, 4, Integer.MIN_VALUE, Integer.MAX_VALUE}, k -> x.net(0, k), -1);
    }

    static void promise13_net_risingWithGaps() {
        ScaleNets x = Check.of(Check.FOUR);
        x.drop(0);
        x.drop(2);
        CHECK.due("net(0, NONE)", x.net(0, -1), 2);
        CHECK.due("net(0, 0)", x.net(0, 0), 1);
        CHECK.due("net(0, 1)", x.net(0, 1), 3);
        CHECK.due("net(10, 0)", x.net(10, 0), 3);
    }

    static void promise13_net_ofTheLastNumbers() {
        CHECK.due("net(3, 1)", Edges.fourAt(36, 37, 38, 39).net(3, 1), 39);
        CHECK.due("net(10, 0)", Edges.fourAt(39, 38, 37, 36).net(10, 0), 39);
        CHECK.due("net(10, NONE)", Edges.fourAt(39, 38, 37, 36).net(10, -1), 1);
        CHECK.due("above(37, 10)", Edges.fourAt(39, 38, 37, 36).above(37, 10), 39);
    }

    static void promise13_net_withoutPoints() {
        for (ScaleNets x : new ScaleNets[] {new ScaleNets(), Edges.empty("sum")}) {
            for (int level = 0; level <= 10; level++) {
                CHECK.due("net(" + level + ", NONE)", x.net(level, -1), 0);
                CHECK.due("net(" + level + ", 0)", x.net(level, 0), -1);
            }
            CHECK.due("net(11, NONE)", x.net(11, -1), -1);
        }
    }

    static void promise13_net_fortyPoints() {
        ScaleNets x = Edges.star();
        CHECK.due("net(0, NONE)", x.net(0, -1), 40);
        CHECK.due("net(0, 39)", x.net(0, 39), 39);
        CHECK.due("net(0, 40)", x.net(0, 40), -1);
        CHECK.due("net(1, NONE)", x.net(1, -1), 27);
        CHECK.due("net(2, NONE)", x.net(2, -1), 1);
    }

    // ---- 14

    static void promise14_above_itselfUpToItsOwnLevel() {
        ScaleNets x = Check.of(Edges.CHAIN);
        for (int p = 0; p < 11; p++) {
            for (int level = 0; level <= 10; level++) {
                CHECK.due("above(" + p + ", " + level + ")", x.above(p, level), Math.min(p, 10 - level));
            }
        }
    }

    static void promise14_above_skipsThoseOfLowerLevels() {
        ScaleNets x = Check.of(Check.FOUR);
        CHECK.due("above(2, 0)", x.above(2, 0), 2);
        CHECK.due("above(2, 1)", x.above(2, 1), 1);
        CHECK.due("above(2, 2): 1 is of level 1", x.above(2, 2), 0);
    }

    static void promise14_above_noSuchLevelOrPoint() {
        ScaleNets x = Check.of(Check.FOUR);
        CHECK.each("above(0, level)", Edges.NO_LEVEL, level -> x.above(0, level), -1);
        CHECK.each("above(p, 0)", Edges.NO_POINT_OF_FOUR, p -> x.above(p, 0), -1);
        CHECK.each("above(p, 10)", Edges.NO_POINT_OF_FOUR, p -> x.above(p, 10), -1);
        CHECK.due("above of a new object", new ScaleNets().above(0, 0), -1);
        CHECK.due("above(39, 10) of forty", Edges.star().above(39, 10), 0);
    }

    // ---- 15

    static void promise15_loose_noLeastFarOfFewerThanTwo() {
        ScaleNets one = Check.of("set by sum;point a at 1 2 3;");
        ScaleNets two = twoBySum(765);
        for (int level = 0; level <= 10; level++) {
            CHECK.due("loose(" + level + ", 0) of one", one.loose(level, 0), -1);
            CHECK.due("loose(" + level + ", 0) of two", two.loose(level, 0), level < 10 ? 765 : -1);
        }
    }

    static void promise15_loose_leastFarOfEachNet() {
        ScaleNets x = Check.of(Edges.CHAIN);
        for (int level = 0; level <= 8; level++) {
            CHECK.due("loose(" + level + ", 0)", x.loose(level, 0), 1 << level);
        }
        CHECK.due("loose(9, 0)", x.loose(9, 0), 765);
        CHECK.due("loose(10, 0)", x.loose(10, 0), -1);
        ScaleNets like = Check.of("set by most;point r at 0 0 0;point p at 100 0 0;point q at 100 64 0;");
        CHECK.due("loose(6, 0) of two that are just of it", like.loose(6, 0), 64);
    }

    static void promise15_loose_mostFarFromAbove() {
        ScaleNets one = Check.of("set by sum;point a at 1 2 3;");
        ScaleNets two = twoBySum(512);
        for (int level = 0; level <= 10; level++) {
            CHECK.due("loose(" + level + ", 1) of one", one.loose(level, 1), 0);
            CHECK.due("loose(" + level + ", 1) of two", two.loose(level, 1), level < 10 ? 0 : 512);
        }
        ScaleNets four = Check.of(Check.FOUR);
        CHECK.due("loose(1, 1): 2 from 1", four.loose(1, 1), 1);
        CHECK.due("loose(2, 1): 2 from 0", four.loose(2, 1), 4);
    }

    static void promise15_loose_nearerThan2ToTheLevelAnd1() {
        CHECK.due("loose(6, 2) at FAR 127", two("most", "127 0 0").loose(6, 2), 2);
        CHECK.due("loose(6, 2) at FAR 128", two("most", "128 0 0").loose(6, 2), 1);
        CHECK.due("loose(7, 2) at FAR 128", two("most", "128 0 0").loose(7, 2), 2);
        CHECK.due("loose(8, 2) at FAR 511", twoBySum(511).loose(8, 2), 2);
        CHECK.due("loose(8, 2) at FAR 512", twoBySum(512).loose(8, 2), 1);
    }

    static void promise15_loose_ofTheNetOfLevelLess1() {
        ScaleNets x = Check.of("set by most;point r at 0 0 0;point p at 100 0 0;point q at 100 64 0;");
        CHECK.due("loose(6, 2)", x.loose(6, 2), 3);
        CHECK.due("loose(7, 2): those of level 6 are asked", x.loose(7, 2), 3);
        CHECK.due("loose(8, 2): they are not", x.loose(8, 2), 1);
        ScaleNets nine = twoBySum(765);
        CHECK.due("loose(10, 2)", nine.loose(10, 2), 2);
        CHECK.due("loose(9, 2)", nine.loose(9, 2), 2);
        CHECK.due("loose(10, 2) of one of level 8", twoBySum(511).loose(10, 2), 1);
    }

    static void promise15_loose_ofLevel0OfLevel0() {
        CHECK.due("loose(0, 2) at FAR 1", twoBySum(1).loose(0, 2), 2);
        CHECK.due("loose(0, 2) at FAR 2", twoBySum(2).loose(0, 2), 1);
        CHECK.due("loose(0, 2) of forty", Check.of(Edges.fortyPoints()).loose(0, 2), 3);
    }

    static void promise15_loose_thatOneTooAndAtTheMostForty() {
        ScaleNets one = Check.of("set by sum;point a at 1 2 3;");
        for (int level = 0; level <= 10; level++) {
            CHECK.due("loose(" + level + ", 2) of one", one.loose(level, 2), 1);
        }
        CHECK.due("loose(1, 2) of forty", Edges.star().loose(1, 2), 40);
    }

    static void promise15_loose_ofTheLastNumbers() {
        ScaleNets x = Edges.fourAt(36, 37, 38, 39);
        CHECK.due("loose(3, 0)", x.loose(3, 0), 9);
        CHECK.due("loose(4, 1)", x.loose(4, 1), 9);
        CHECK.due("loose(4, 2)", x.loose(4, 2), 2);
        ScaleNets y = Edges.fourAt(39, 38, 37, 36);
        CHECK.due("loose(10, 2)", y.loose(10, 2), 1);
        CHECK.due("loose(4, 2)", y.loose(4, 2), 2);
    }

    static void promise15_loose_ofThoseThatAreThereByNow() {
        ScaleNets x = Check.of(Check.FOUR);
        x.drop(1);
        CHECK.due("loose(0, 0)", x.loose(0, 0), 4);
        x.drop(2);
        CHECK.due("loose(0, 0)", x.loose(0, 0), 9);
        CHECK.due("loose(0, 2)", x.loose(0, 2), 1);
        CHECK.due("loose(10, 1)", x.loose(10, 1), 9);
    }

    static void promise15_loose_withoutPoints() {
        for (ScaleNets x : new ScaleNets[] {new ScaleNets(), Edges.empty("sum")}) {
            for (int what = 0; what < 3; what++) {
                CHECK.due("loose(0, " + what + ")", x.loose(0, what), -1);
                CHECK.due("loose(10, " + what + ")", x.loose(10, what), -1);
            }
        }
    }

    static void promise15_loose_noSuchLevelOrWhat() {
        ScaleNets x = Check.of(Check.FOUR);
        for (int what = 0; what < 3; what++) {
            int asked = what;
            CHECK.each("loose(level, " + what + ")", Edges.NO_LEVEL, level -> x.loose(level, asked), -1);
        }
        CHECK.each("loose(0, what)", Edges.noWhat(2), what -> x.loose(0, what), -1);
    }

    // ---- 16

    static void promise16_most_withoutPoints() {
        for (ScaleNets x : new ScaleNets[] {new ScaleNets(), Edges.empty("sum")}) {
            CHECK.due("most(0)", x.most(0), -1);
            CHECK.due("most(1)", x.most(1), -1);
        }
    }

    static void promise16_most_ofOneAndOfForty() {
        ScaleNets one = Check.of("set by sum;point a at 1 2 3;");
        CHECK.due("most(0) of one", one.most(0), 0);
        CHECK.due("most(1) of one", one.most(1), 0);
        ScaleNets forty = Edges.star();
        CHECK.due("most(0) of forty", forty.most(0), 39);
        CHECK.due("most(1) of forty", forty.most(1), 0);
    }

    static void promise16_most_ofLikeOnesTheFirst() {
        ScaleNets x = Check.of("set by most;point a at 0 0 0;point b at 100 0 0;point c at 101 0 0;");
        x.drop(0);
        x.add(200, 0, 0);
        x.add(201, 0, 0);
        CHECK.due("most(0): the root, 1, has 0 and 2", x.most(0), 2);
        CHECK.due("most(1)", x.most(1), 1);
        x.drop(2);
        CHECK.due("most(0): 1 has 0, and 0 has 3", x.most(0), 1);
        CHECK.due("most(1)", x.most(1), 0);
    }

    static void promise16_most_ofTheLastNumber() {
        ScaleNets x = Edges.fourAt(39, 38, 37, 36);
        CHECK.due("most(0)", x.most(0), 2);
        CHECK.due("most(1)", x.most(1), 39);
    }

    static void promise16_most_otherWhats() {
        CHECK.each("most", Edges.noWhat(1), Check.of(Check.FOUR)::most, -1);
    }

    public static void main(String[] args) throws ReflectiveOperationException {
        CHECK.runAll(EdgesOfPointsTest.class);
    }
}
