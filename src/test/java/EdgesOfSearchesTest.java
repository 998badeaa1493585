import java.util.Arrays;

/** Promises 17 to 23 at their edges: searches, what was pruned, proofs, nth, within, remote (Terms, II and III). */
public final class EdgesOfSearchesTest {
    private static final Check CHECK = new Check("EdgesOfSearchesTest");
    /** In a row by most: a the root, b (LEVEL 1) and d (3) its children, c (0) is b's. */
    private static final String ROW = "set by most;point a at 0 0 0;point b at 3 0 0;point c at 4 0 0;point d at 9 0 0;";

    private static void found(String when, ScaleNets x, int... want) {
        CHECK.same(when, Arrays.toString(Edges.found(x)), Arrays.toString(want));
    }

    private static void pruned(String when, ScaleNets x, int k, int... want) {
        int[] got = {x.pruned(k, 0), x.pruned(k, 1), x.pruned(k, 2), x.pruned(k, 3)};
        CHECK.same(when + ", row " + k, Arrays.toString(got), Arrays.toString(want));
    }

    private static int proves(ScaleNets x, int place, int d, int... rows) {
        Check.tape(x, rows);
        return x.proves(place >> 16 & 255, place >> 8 & 255, place & 255, d);
    }

    // ---- 17

    static void promise17_seek_withoutPoints() {
        CHECK.due("seek of a new object", new ScaleNets().seek(0, 0, 0), -1);
        CHECK.due("seek without points", Edges.empty("most").seek(0, 0, 0), -1);
        ScaleNets x = Check.of("set by sum;point a at 1 2 3;");
        x.drop(0);
        CHECK.due("seek behind the last went", x.seek(1, 2, 3), -1);
    }

    static void promise17_seek_noSuchPlace() {
        ScaleNets x = Check.of(Check.FOUR);
        for (int number : Edges.NO_COORDINATE) {
            for (int[] at : Edges.placesWith(number)) {
                CHECK.due("seek" + Arrays.toString(at), x.seek(at[0], at[1], at[2]), -1);
            }
        }
        found("seek of no place", x, -1, -1, -1, -1);
    }

    static void promise17_seek_theCornersOfAllPlaces() {
        ScaleNets x = Check.of("set by sum;point a at 128 0 0;point b at 0 128 128;");
        CHECK.due("seek(255, 0, 0)", x.seek(255, 0, 0), 0);
        CHECK.due("its FAR", x.found(0), 127);
        CHECK.due("seek(0, 255, 255)", x.seek(0, 255, 255), 1);
        CHECK.due("its FAR", x.found(0), 254);
        CHECK.due("seek(0, 0, 0)", x.seek(0, 0, 0), 0);
        CHECK.due("seek(255, 255, 255)", x.seek(255, 255, 255), 1);
        CHECK.due("its FAR", x.found(0), 509);
    }

    static void promise17_seek_ofLikeOnesTheLeastNumber() {
        ScaleNets x = Edges.rootIsOne(20, 0, 0);
        CHECK.due("as near to 0 as to the root, 1", x.seek(10, 0, 0), 0);
        CHECK.due("one step nearer to the root", x.seek(9, 0, 0), 1);
        CHECK.due("one step nearer to 0", x.seek(11, 0, 0), 0);
        ScaleNets first = Check.of("set by most;point a at 0 0 0;point b at 20 0 0;");
        CHECK.due("as near to the root, 0, as to 1", first.seek(10, 0, 0), 0);
    }

    static void promise17_seek_eachOfFortyAtItsPlace() {
        ScaleNets x = Check.of(Edges.fortyPoints());
        for (int p = 0; p < 40; p++) {
            CHECK.due("seek(" + p + ", 0, 0)", x.seek(p, 0, 0), p);
        }
    }

    static void promise17_seek_ofTheLastNumbers() {
        CHECK.due("seek at d, 39", Edges.fourAt(36, 37, 38, 39).seek(0, 9, 0), 39);
        CHECK.due("seek at a, 39", Edges.fourAt(39, 38, 37, 36).seek(0, 0, 0), 39);
        CHECK.due("seek at c, 39", Edges.fourAt(36, 37, 39, 38).seek(4, 0, 0), 39);
    }

    static void promise17_seek_downAllTenLevels() {
        ScaleNets x = Check.of(Edges.CHAIN);
        CHECK.due("seek at the one of level 0", x.seek(255, 171, 85), 10);
        found("seek at the one of level 0", x, 0, 11, 0, 0);
    }

    // ---- 18

    static void promise18_found_aheadOfAny() {
        found("new", new ScaleNets(), -1, -1, -1, -1);
        found("set()", Check.of(Check.FOUR), -1, -1, -1, -1);
        ScaleNets x = Edges.empty("sum");
        x.seek(1, 1, 1);
        found("a seek that found none", x, -1, -1, -1, -1);
    }

    static void promise18_found_ofOnePoint() {
        ScaleNets x = Check.of("set by sum;point a at 1 2 3;");
        x.seek(1, 2, 3);
        found("seek at it", x, 0, 1, 0, 0);
        x.seek(255, 255, 255);
        found("seek far off", x, 759, 1, 0, 0);
    }

    static void promise18_found_seeksThatFoundNoneLeaveTheLatest() {
        ScaleNets x = Check.of(Check.FOUR);
        x.seek(0, 9, 0);
        x.seek(256, 0, 0);
        x.seek(0, 0, -1);
        found("seek of no place", x, 0, 2, 1, 2);
        pruned("seek of no place", x, 0, 0, 3, 9, 2);
        for (int p = 0; p < 4; p++) {
            x.drop(p);
        }
        CHECK.due("seek without points", x.seek(0, 9, 0), -1);
        found("seek without points", x, 0, 2, 1, 2);
        pruned("seek without points", x, 0, 0, 3, 9, 2);
    }

    static void promise18_found_asItWasThen() {
        ScaleNets x = Check.of(Check.FOUR);
        x.seek(0, 9, 0);
        x.drop(1);
        x.drop(0);
        x.by(2);
        x.chance(20);
        found("acts", x, 0, 2, 1, 2);
        pruned("acts", x, 0, 0, 3, 9, 2);
        x.undo();
        Check.tape(x, Edges.checked(1, 0));
        CHECK.due("on()", x.on(), true);
        found("on()", x, 0, 2, 1, 2);
        pruned("on()", x, 0, 0, 3, 9, 2);
    }

    static void promise18_found_aLaterSeekTakesItsPlace() {
        ScaleNets x = Check.of(Check.FOUR);
        x.seek(0, 9, 0);
        x.seek(5, 0, 0);
        found("a later seek", x, 1, 4, 0, 0);
        CHECK.due("pruned(0, 0)", x.pruned(0, 0), -1);
    }

    /** 2 is the child of the root, 1; 0 that of 2, 3 that of 0: the first seek goes down to 3, the next one not even to 0. */
    static void promise18_found_nothingOfAnEarlierSeekGoesOn() {
        ScaleNets x = Edges.rootIsOne(200, 200, 200);
        x.add(64, 0, 0);
        x.move(0, 72, 0, 0);
        x.add(73, 0, 0);
        CHECK.due("parent of 0", x.point(0, 4), 2);
        CHECK.due("parent of 3", x.point(3, 4), 0);
        CHECK.due("seek at 3", x.seek(73, 0, 0), 3);
        CHECK.due("seek at the root", x.seek(0, 0, 0), 1);
        found("seek at the root", x, 0, 2, 1, 2);
        pruned("seek at the root", x, 0, 2, 6, 64, 2);
    }

    /** The same by other numbers: 37 is the child of 36, 39 that of 37, 38 that of 39. */
    static void promise18_found_nothingOfTheLastNumberGoesOn() {
        ScaleNets x = Edges.empty("most");
        Check.tape(x, Edges.checked(1, 4, 36, 0, 0, 0, 10, 255, 37, 64, 0, 0, 6, 36, 38, 73, 0, 0, 0, 39, 39, 72, 0, 0, 3, 37));
        CHECK.due("on()", x.on(), true);
        CHECK.due("seek at 38", x.seek(73, 0, 0), 38);
        CHECK.due("seek at the root", x.seek(0, 0, 0), 36);
        found("seek at the root", x, 0, 2, 1, 2);
    }

    static void promise18_found_otherWhats() {
        ScaleNets x = Check.of(Check.FOUR);
        x.seek(0, 9, 0);
        CHECK.each("found", Edges.noWhat(3), x::found, -1);
    }

    // ---- 19

    static void promise19_pruned_justAsFarIsPrunedOneLessIsNot() {
        ScaleNets x = Check.of(ROW);
        CHECK.due("seek", x.seek(9, 1, 0), 3);
        // a is 9 FAR: 9 less 8 is FAR of BEST, 1.
        found("just as far", x, 1, 2, 1, 2);
        pruned("just as far", x, 0, 0, 3, 9, 2);
        CHECK.due("seek", x.seek(9, 2, 0), 3);
        // 9 less 8 is below 2: a goes on at 3, b (6 FAR) is looked at, and pruned at 2, as 6 less 4 is 2.
        found("one less", x, 2, 3, 1, 1);
        pruned("one less", x, 0, 1, 2, 6, 1);
    }

    static void promise19_pruned_onlyWithChildrenOfLevelsBelow() {
        ScaleNets x = Check.of("set by most;point a at 0 0 0;point d at 9 0 0;");
        x.seek(9, 0, 0);
        // a goes on no more at 3, but its child is of LEVEL 3.
        found("no children below", x, 0, 2, 0, 0);
        ScaleNets one = Check.of("set by most;point a at 0 0 0;point d at 9 0 0;point e at 2 0 0;");
        one.seek(9, 0, 0);
        found("a child of level 1", one, 0, 2, 1, 1);
        pruned("a child of level 1", one, 0, 0, 3, 9, 1);
        ScaleNets two = Check.of("set by most;point a at 0 0 0;point d at 9 0 0;point e at 0 4 0;");
        two.seek(9, 0, 0);
        // Its child of LEVEL 2 was looked at at 3.
        found("a child of level 2", two, 0, 3, 0, 0);
    }

    static void promise19_pruned_atTheHighestAndTheLowestK() {
        ScaleNets x = Check.of("set by sum;point a at 255 255 255;point b at 0 0 0;point c at 255 255 254;");
        CHECK.due("seek", x.seek(0, 0, 0), 1);
        found("at 9", x, 0, 2, 1, 1);
        pruned("at 9", x, 0, 0, 9, 765, 1);
        ScaleNets low = Check.of("set by most;point a at 0 0 0;point b at 4 0 0;point c at 5 0 0;");
        CHECK.due("seek", low.seek(0, 0, 0), 0);
        found("at 2", low, 0, 2, 1, 1);
        pruned("at 2", low, 0, 1, 2, 4, 1);
    }

    static void promise19_pruned_byNumbersAtOneK() {
        ScaleNets x = Check.of("set by most;point r at 0 0 0;point a at 64 0 0;point b at 65 0 0;point c at 0 64 0;"
                + "point d at 0 65 0;point e at 0 0 64;point f at 0 0 65;");
        CHECK.due("seek", x.seek(0, 0, 0), 0);
        found("three at 6", x, 0, 4, 3, 3);
        for (int k = 0; k < 3; k++) {
            pruned("three at 6", x, k, 2 * k + 1, 6, 64, 1);
        }
        pruned("three at 6", x, 3, -1, -1, -1, -1);
    }

    static void promise19_pruned_theHigherKFirst() {
        ScaleNets x = Check.of("set by most;point r at 0 0 0;point a at 20 0 0;point b at 21 0 0;point c at 0 64 0;point d at 0 65 0;");
        CHECK.due("seek", x.seek(0, 0, 0), 0);
        found("at 6 and 4", x, 0, 3, 2, 2);
        pruned("at 6 and 4", x, 0, 3, 6, 64, 1);
        pruned("at 6 and 4", x, 1, 1, 4, 20, 1);
    }

    static void promise19_pruned_ofTheLastNumber() {
        ScaleNets x = Edges.fourAt(39, 38, 37, 36);
        x.seek(0, 9, 0);
        pruned("39 is pruned", x, 0, 39, 3, 9, 2);
        ScaleNets y = Edges.fourAt(36, 37, 39, 38);
        y.seek(0, 9, 0);
        pruned("39 is spared", y, 0, 36, 3, 9, 2);
        found("39 is spared", y, 0, 2, 1, 2);
    }

    static void promise19_pruned_noSuchRow() {
        ScaleNets x = Check.of(Check.FOUR);
        for (int what = 0; what < 4; what++) {
            CHECK.due("pruned(0, " + what + ") ahead of any", x.pruned(0, what), -1);
        }
        x.seek(0, 9, 0);
        for (int what = 0; what < 4; what++) {
            int asked = what;
            CHECK.each("pruned(k, " + what + ")", Edges.noWhat(0), k -> x.pruned(k, asked), -1);
        }
    }

    static void promise19_pruned_otherWhats() {
        ScaleNets x = Check.of(Check.FOUR);
        x.seek(0, 9, 0);
        CHECK.each("pruned(0, what)", Edges.noWhat(3), what -> x.pruned(0, what), -1);
    }

    // ---- 20: FOUR, of which 0 0 9 is 9, 12, 13 and 18 FAR, and 255 255 255 is 765, 762, 761 and 756

    private static final int NINE = 9;
    private static final int CORNER = 0xFFFFFF;

    static void promise20_proves_noRowsAtAll() {
        ScaleNets x = Check.of(Check.FOUR);
        CHECK.due("d 0", proves(x, NINE, 0), 0);
        CHECK.due("d 9: a is just so far", proves(x, NINE, 9), 0);
        CHECK.due("d 10: a is nearer", proves(x, NINE, 10), -1);
    }

    static void promise20_proves_fortyRowsAnd41() {
        ScaleNets x = Check.of(Check.FOUR);
        int[] rows = new int[82];
        for (int i = 1; i < 82; i += 2) {
            rows[i] = 3;
        }
        CHECK.due("40 rows", proves(x, NINE, 1, Arrays.copyOf(rows, 80)), 2);
        CHECK.due("41 rows", proves(x, NINE, 1, rows), -1);
        CHECK.due("800 rows", proves(x, NINE, 1, new int[1600]), -1);
    }

    static void promise20_proves_rowsOfTwoBytes() {
        ScaleNets x = Check.of(Check.FOUR);
        CHECK.due("one byte", proves(x, NINE, 0, 0), -1);
        CHECK.due("two", proves(x, NINE, 0, 0, 3), 2);
        CHECK.due("three", proves(x, NINE, 0, 0, 3, 0), -1);
        CHECK.due("81: forty rows and a half", proves(x, CORNER, 0, new int[81]), -1);
    }

    static void promise20_proves_kFrom1To10() {
        ScaleNets x = Check.of(Check.FOUR);
        CHECK.due("k 1", proves(x, CORNER, 0, 0, 1), 0);
        CHECK.due("k 9", proves(x, CORNER, 0, 0, 9), 3);
        CHECK.due("k 10: 1024 is more than any FAR", proves(x, CORNER, 0, 0, 10), -1);
        for (int k : new int[] {0, 11, 31, 32, 33, 63, 64, 65, 128, 255}) {
            CHECK.due("k " + k, proves(x, CORNER, 0, 0, k), -1);
        }
    }

    static void promise20_proves_farLess2ToTheKIsNotBelowD() {
        ScaleNets x = Check.of(Check.FOUR);
        CHECK.due("9 less 8, d 1", proves(x, NINE, 1, 0, 3), 2);
        CHECK.due("9 less 8, d 2", proves(x, NINE, 2, 0, 3), -1);
        CHECK.due("9 less 2, d 7", proves(x, NINE, 7, 0, 1), 0);
        CHECK.due("9 less 2, d 8", proves(x, NINE, 8, 0, 1), -1);
        CHECK.due("765 less 512, d 253", proves(x, CORNER, 253, 0, 9), 3);
        CHECK.due("765 less 512, d 254", proves(x, CORNER, 254, 0, 9), -1);
        CHECK.due("9 less 16, d 0", proves(x, NINE, 0, 0, 4), -1);
    }

    static void promise20_proves_sparedAreChildrenOfLevelsBelowKLess1() {
        ScaleNets x = Check.of(Check.FOUR);
        int[] ofRoot = {0, 0, 2, 2, 3, 3, 3, 3, 3};
        int[] ofB = {0, 1, 1, 1, 1, 1, 1, 1, 1};
        for (int k = 1; k <= 9; k++) {
            CHECK.due("a at " + k, proves(x, CORNER, 0, 0, k), ofRoot[k - 1]);
            CHECK.due("b at " + k, proves(x, CORNER, 0, 1, k), ofB[k - 1]);
            CHECK.due("d at " + k, proves(x, CORNER, 0, 3, k), 0);
        }
    }

    static void promise20_proves_sparedDownAllLevels() {
        ScaleNets x = Check.of(Edges.CHAIN);
        // Each one's only child is one LEVEL below it: that LEVEL is below k - 1 from its own and 1 on.
        for (int p = 2; p < 10; p++) {
            CHECK.due("point " + p + " at its level", proves(x, 0x00FFFF, 0, p, 10 - p), 0);
            CHECK.due("point " + p + " at its level and 1", proves(x, 0x00FFFF, 0, p, 11 - p), 10 - p);
        }
        CHECK.due("the last at 1", proves(x, 0x00FFFF, 0, 10, 1), 0);
    }

    static void promise20_proves_whomNoRowSparesIsDFar() {
        ScaleNets x = Check.of(ROW);
        // From 9 1 0: a 9, b 6, c 5, d 1. The row spares b and c; d is just 1 FAR.
        CHECK.due("d 1", proves(x, 0x090100, 1, 0, 3), 2);
        CHECK.due("d 1 without the row", proves(x, 0x090100, 1), 0);
        ScaleNets y = Check.of(ROW);
        y.drop(3);
        // From 6 1 0: a 6, b 3, c 2; a's row at 2 spares none.
        CHECK.due("d 2", proves(y, 0x060100, 2, 0, 2), 0);
        CHECK.due("d 3: c is nearer, and no row spares it", proves(y, 0x060100, 3), -1);
    }

    static void promise20_proves_pointsOfRows() {
        ScaleNets x = Check.of(Check.FOUR);
        for (int p : new int[] {4, 39, 40, 128, 255}) {
            CHECK.due("a row of " + p, proves(x, CORNER, 0, p, 1), -1);
            CHECK.due("a second row of " + p, proves(x, CORNER, 0, 0, 1, p, 1), -1);
        }
        CHECK.due("a row of the last of four", proves(x, CORNER, 0, 3, 1), 0);
        CHECK.due("a row of the last of forty", proves(Edges.star(), CORNER, 0, 39, 1), 0);
        CHECK.due("39 spares", proves(Edges.fourAt(39, 38, 37, 36), NINE, 1, 39, 3), 2);
        CHECK.due("39 is spared", proves(Edges.fourAt(36, 37, 39, 38), NINE, 1, 36, 3), 2);
        CHECK.due("39 is not, and nearer", proves(Edges.fourAt(39, 38, 37, 36), NINE, 10), -1);
        x.drop(2);
        CHECK.due("a row of one that went", proves(x, CORNER, 0, 2, 1), -1);
    }

    static void promise20_proves_eachPointIsCountedOnce() {
        ScaleNets x = Check.of(Check.FOUR);
        CHECK.due("like rows", proves(x, NINE, 1, 0, 3, 0, 3), 2);
        CHECK.due("rows of a and b", proves(x, NINE, 1, 0, 3, 1, 2), 2);
        CHECK.due("all but the root", proves(Edges.star(), 0, 0, 0, 3), 39);
    }

    static void promise20_proves_eachRowSparesItsOwn() {
        ScaleNets x = Check.of("set by most;point r at 0 0 0;point a at 20 0 0;point b at 21 0 0;point c at 0 64 0;point d at 0 65 0;");
        CHECK.due("c at 6", proves(x, 0, 0, 3, 6), 1);
        CHECK.due("c at 6, a at 4", proves(x, 0, 0, 3, 6, 1, 4), 2);
        CHECK.due("a at 4, c at 6", proves(x, 0, 0, 1, 4, 3, 6), 2);
        CHECK.due("a last row that is none", proves(x, 0, 0, 1, 4, 3, 7), -1);
        CHECK.due("a first row that is none", proves(x, 0, 0, 1, 5, 3, 6), -1);
    }

    static void promise20_proves_dFrom0To999() {
        ScaleNets x = Edges.empty("sum");
        CHECK.due("d 0", proves(x, 0, 0), 0);
        CHECK.due("d 999", proves(x, 0, 999), 0);
        CHECK.each("proves(0, 0, 0, d)", Edges.NO_LENGTH, d -> proves(x, 0, d), -1);
    }

    static void promise20_proves_noSuchPlace() {
        ScaleNets x = Check.of(Check.FOUR);
        for (int number : Edges.NO_COORDINATE) {
            for (int[] at : Edges.placesWith(number)) {
                CHECK.due("proves" + Arrays.toString(at), x.proves(at[0], at[1], at[2], 0), -1);
                CHECK.due("without a set", new ScaleNets().proves(at[0], at[1], at[2], 0), -1);
            }
        }
    }

    static void promise20_proves_withoutPoints() {
        for (ScaleNets x : new ScaleNets[] {new ScaleNets(), Edges.empty("bits")}) {
            CHECK.due("no rows", proves(x, 0, 999), 0);
            CHECK.due("a row", proves(x, 0, 0, 0, 1), -1);
        }
    }

    static void promise20_proves_theTapeGoesAndNothingIsRefused() {
        ScaleNets x = Edges.rich();
        Edges.leavesAll(CHECK, "a proof", x, 1, y -> proves(y, NINE, 1, 0, 3));
        CHECK.due("feed behind a proof", x.feed(0, 0, 0, 0, 0), 20);
        ScaleNets other = Edges.rich();
        Edges.leavesAll(CHECK, "no proof", other, -1, y -> proves(y, NINE, 999));
        CHECK.due("feed behind no proof", other.feed(0, 0, 0, 0, 0), 20);
        x.proves(256, 0, 0, 0);
        CHECK.due("feed behind no place", x.feed(0, 0, 0, 0, 0), 20);
        x.proves(0, 0, 0, 1000);
        CHECK.due("feed behind no d", x.feed(0, 0, 0, 0, 0), 20);
    }

    static void promise20_proves_whatASeekPruned() {
        ScaleNets x = Check.of(ROW);
        x.seek(9, 2, 0);
        CHECK.due("its rows", proves(x, 0x090200, x.found(0), x.pruned(0, 0), x.pruned(0, 1)), x.found(3));
    }

    // ---- 21

    static void promise21_nth_theFirstTheLastAndTheOneBehind() {
        ScaleNets x = Check.of(Edges.fortyPoints());
        CHECK.due("nth 0", x.nth(0, 0, 0, 0), 0);
        CHECK.due("nth 39", x.nth(0, 0, 0, 39), 39);
        CHECK.each("nth", Edges.noWhat(39), k -> x.nth(0, 0, 0, k), -1);
    }

    static void promise21_nth_ofLikeOnesTheLeastNumberFirst() {
        ScaleNets x = Edges.rootIsOne(20, 0, 0);
        x.add(10, 10, 0);
        CHECK.due("nth 0", x.nth(10, 0, 0, 0), 0);
        CHECK.due("nth 1", x.nth(10, 0, 0, 1), 1);
        CHECK.due("nth 2", x.nth(10, 0, 0, 2), 2);
        CHECK.due("nth 3", x.nth(10, 0, 0, 3), -1);
        ScaleNets star = Edges.star();
        for (int k = 0; k < 26; k++) {
            CHECK.due("nth " + (14 + k) + " of the star", star.nth(100, 100, 100, 14 + k), k + 1);
        }
    }

    static void promise21_nth_ofThoseThatAreThereByNow() {
        ScaleNets x = Check.of(Check.FOUR);
        x.drop(0);
        CHECK.due("nth 0", x.nth(0, 0, 0, 0), 1);
        CHECK.due("nth 2", x.nth(0, 0, 0, 2), 3);
        CHECK.due("nth 3", x.nth(0, 0, 0, 3), -1);
        CHECK.due("within 0 of the one that went", x.within(0, 0, 0, 0), 0);
    }

    static void promise21_nth_noSuchPlace() {
        ScaleNets x = Check.of(Check.FOUR);
        for (int number : Edges.NO_COORDINATE) {
            for (int[] at : Edges.placesWith(number)) {
                CHECK.due("nth" + Arrays.toString(at), x.nth(at[0], at[1], at[2], 0), -1);
            }
        }
        CHECK.due("a corner", x.nth(255, 255, 255, 0), 3);
    }

    static void promise21_nth_withoutPoints() {
        CHECK.due("nth of a new object", new ScaleNets().nth(0, 0, 0, 0), -1);
        CHECK.due("nth without points", Edges.empty("sum").nth(0, 0, 0, 0), -1);
        CHECK.due("nth -1 without points", Edges.empty("sum").nth(0, 0, 0, -1), -1);
    }

    // ---- 22

    static void promise22_within_justSoFarIsWithin() {
        ScaleNets x = Check.of(Check.FOUR);
        CHECK.due("within 8 of 0 0 9", x.within(0, 0, 9, 8), 0);
        CHECK.due("within 9", x.within(0, 0, 9, 9), 1);
        CHECK.due("within 17", x.within(0, 0, 9, 17), 3);
        CHECK.due("within 18", x.within(0, 0, 9, 18), 4);
        CHECK.due("within 764 of the corner", x.within(255, 255, 255, 764), 3);
        CHECK.due("within 765 of the corner", x.within(255, 255, 255, 765), 4);
    }

    static void promise22_within_dFrom0To999() {
        ScaleNets x = Check.of(Check.FOUR);
        CHECK.due("within 0, where one is", x.within(3, 0, 0, 0), 1);
        CHECK.due("within 0, where none is", x.within(2, 0, 0, 0), 0);
        CHECK.due("within 999", x.within(0, 0, 0, 999), 4);
        CHECK.each("within", Edges.NO_LENGTH, d -> x.within(0, 0, 0, d), -1);
        CHECK.due("within 2 of forty", Edges.star().within(100, 100, 100, 2), 40);
    }

    static void promise22_within_noSuchPlace() {
        ScaleNets x = Check.of(Check.FOUR);
        for (int number : Edges.NO_COORDINATE) {
            for (int[] at : Edges.placesWith(number)) {
                CHECK.due("within" + Arrays.toString(at), x.within(at[0], at[1], at[2], 999), -1);
            }
        }
    }

    static void promise22_within_withoutPoints() {
        for (ScaleNets x : new ScaleNets[] {new ScaleNets(), Edges.empty("sum")}) {
            CHECK.due("within 999", x.within(0, 0, 0, 999), 0);
            CHECK.due("within 1000", x.within(0, 0, 0, 1000), -1);
            CHECK.due("no place", x.within(0, 0, 256, 0), -1);
        }
    }

    // ---- 23

    static void promise23_remote_withoutPoints() {
        for (ScaleNets x : new ScaleNets[] {new ScaleNets(), Edges.empty("sum")}) {
            for (int what = 0; what < 3; what++) {
                CHECK.due("remote(0, 0, 0, " + what + ")", x.remote(0, 0, 0, what), -1);
            }
        }
    }

    static void promise23_remote_ofOnePoint() {
        ScaleNets x = Check.of("set by sum;point a at 0 0 0;");
        CHECK.due("which", x.remote(255, 255, 255, 0), 0);
        CHECK.due("its FAR", x.remote(255, 255, 255, 1), 765);
        CHECK.due("looked at", x.remote(255, 255, 255, 2), 1);
        CHECK.due("its FAR at its own place", x.remote(0, 0, 0, 1), 0);
    }

    static void promise23_remote_notAboveIsLeftOneMoreGoesOn() {
        ScaleNets x = Check.of("set by most;point a at 0 0 0;point b at 3 0 0;point d at 8 0 0;");
        // a at 0 and 8 together are not above 8: b is not looked at.
        CHECK.due("farthest", x.remote(0, 0, 0, 0), 2);
        CHECK.due("looked at", x.remote(0, 0, 0, 2), 2);
        // From 1: a at 1 and 8 together are above 7: b is looked at.
        CHECK.due("farthest", x.remote(1, 0, 0, 0), 2);
        CHECK.due("looked at", x.remote(1, 0, 0, 2), 3);
    }

    static void promise23_remote_ofLikeOnesTheLeastNumber() {
        ScaleNets x = Edges.rootIsOne(20, 0, 0);
        CHECK.due("as far from 0 as from the root, 1", x.remote(10, 0, 0, 0), 0);
        CHECK.due("one step farther from the root", x.remote(11, 0, 0, 0), 1);
        ScaleNets first = Check.of("set by most;point a at 0 0 0;point b at 20 0 0;");
        CHECK.due("as far from the root, 0, as from 1", first.remote(10, 0, 0, 0), 0);
    }

    static void promise23_remote_noSuchPlace() {
        ScaleNets x = Check.of(Check.FOUR);
        for (int number : Edges.NO_COORDINATE) {
            for (int[] at : Edges.placesWith(number)) {
                CHECK.due("remote" + Arrays.toString(at), x.remote(at[0], at[1], at[2], 0), -1);
            }
        }
    }

    static void promise23_remote_otherWhats() {
        ScaleNets x = Check.of(Check.FOUR);
        CHECK.each("remote(0, 0, 0, what)", Edges.noWhat(2), what -> x.remote(0, 0, 0, what), -1);
    }

    static void promise23_remote_isNoSeek() {
        ScaleNets x = Edges.rich();
        Edges.leavesAll(CHECK, "remote", x, 4, y -> y.remote(0, 0, 0, 0));
        CHECK.due("found(0) ahead of any seek", farSearched().found(0), -1);
    }

    private static ScaleNets farSearched() {
        ScaleNets x = Check.of(Check.FOUR);
        x.remote(0, 0, 0, 0);
        return x;
    }

    public static void main(String[] args) throws ReflectiveOperationException {
        CHECK.runAll(EdgesOfSearchesTest.class);
    }
}
