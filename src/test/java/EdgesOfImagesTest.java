import java.util.Arrays;

/** Promises 45 to 48 at their edges: AN IMAGE that is written and read (Terms, III), and what was refused. */
public final class EdgesOfImagesTest {
    private static final Check CHECK = new Check("EdgesOfImagesTest");
    /** What Check.FOUR is, without its last byte. */
    private static final int[] FOUR = {0, 4, 0, 0, 0, 0, 10, 255, 1, 3, 0, 0, 1, 0, 2, 4, 0, 0, 0, 1, 3, 0, 9, 0, 3, 0};

    private static int on(ScaleNets x, int... bytes) {
        Check.tape(x, bytes);
        return x.on() ? 1 : 0;
    }

    /** The tape is AN IMAGE: all is as it tells, and an image of that is the same again. */
    private static ScaleNets taken(String what, int... bytes) {
        ScaleNets x = Edges.rich();
        CHECK.due("on(): " + what, on(x, bytes), 1);
        CHECK.same("on(): " + what, Edges.image(x), bytes.length + " " + Arrays.toString(bytes));
        CHECK.due("status(5): " + what, x.status(5), 0);
        return x;
    }

    private static void none(String what, int... bytes) {
        Edges.refusedOfRich(CHECK, "on(): " + what, 5, 0, x -> on(x, bytes));
    }

    /** The rows of a root at 0 0 0 and of a second point, number 1. */
    private static int[] two(int measure, int x, int y, int z, int level, int parent) {
        return Edges.checked(measure, 2, 0, 0, 0, 0, 10, 255, 1, x, y, z, level, parent);
    }

    private static int[] with(int place, int octet) {
        int[] rows = FOUR.clone();
        rows[place] = octet;
        return Edges.checked(rows);
    }

    private static int[] imageOf(ScaleNets x) {
        x.image();
        return Edges.octets(x);
    }

    // ---- 45

    static void promise45_image_withoutASet() {
        ScaleNets x = new ScaleNets();
        CHECK.due("image()", x.image(), -1);
        CHECK.due("octet(0)", x.octet(0), -1);
        CHECK.same("image()", Arrays.toString(Edges.refusals(x)), "[0, 0, 0, 0, 0, 0]");
    }

    static void promise45_image_withoutPoints() {
        String[] measures = {"sum", "most", "bits"};
        for (int m = 0; m < 3; m++) {
            ScaleNets x = Edges.empty(measures[m]);
            CHECK.due("image()", x.image(), 3);
            CHECK.same("image()", Arrays.toString(Edges.octets(x)), Arrays.toString(Edges.checked(m, 0)));
        }
    }

    static void promise45_image_ofOneAndOfForty() {
        ScaleNets one = Check.of("set by sum;point a at 0 255 7;");
        CHECK.due("image() of one", one.image(), 9);
        CHECK.same("image() of one", Arrays.toString(Edges.octets(one)), Arrays.toString(Edges.checked(0, 1, 0, 0, 255, 7, 10, 255)));
        ScaleNets forty = Check.of(Edges.fortyPoints());
        CHECK.due("image() of forty", forty.image(), 243);
        CHECK.due("octet(236): the last number", forty.octet(236), 39);
        CHECK.due("octet(242): the last byte", forty.octet(242), Edges.checked(Arrays.copyOf(Edges.octets(forty), 242))[242]);
    }

    static void promise45_image_of4() {
        CHECK.same("image()", Edges.image(Check.of(Check.FOUR)), "27 " + Arrays.toString(Edges.checked(FOUR)));
    }

    static void promise45_image_risingWithGaps() {
        ScaleNets x = Check.of(Check.FOUR);
        x.drop(2);
        x.drop(0);
        CHECK.due("image()", x.image(), 15);
        CHECK.due("the first number", x.octet(2), 1);
        CHECK.due("the next number", x.octet(8), 3);
        CHECK.due("its parent: none, it is the root", x.octet(13), 255);
    }

    static void promise45_image_leavesAllElse() {
        ScaleNets x = Edges.rich();
        String points = Edges.points(x);
        x.image();
        CHECK.same("image()", Edges.points(x), points);
        CHECK.due("has(5)", x.has(5), 2);
        CHECK.due("has(6)", x.has(6), 77);
        CHECK.due("found(0)", x.found(0), 0);
        CHECK.same("image()", Arrays.toString(Edges.refusals(x)), "[0, 0, 0, 0, 0, 0]");
    }

    // ---- 46

    static void promise46_octet_aheadOfAnyImage() {
        CHECK.due("octet(0) of a new object", new ScaleNets().octet(0), -1);
        CHECK.due("octet(0) behind set()", Check.of(Check.FOUR).octet(0), -1);
    }

    static void promise46_octet_theFirstTheLastAndTheOneBehind() {
        ScaleNets x = Check.of(Check.FOUR);
        x.image();
        int[] want = Edges.checked(FOUR);
        CHECK.due("octet(0)", x.octet(0), want[0]);
        CHECK.due("octet(26)", x.octet(26), want[26]);
        CHECK.each("octet", Edges.noWhat(26), x::octet, -1);
        ScaleNets forty = Check.of(Edges.fortyPoints());
        forty.image();
        CHECK.due("octet(242) of forty", forty.octet(242) >= 0, true);
        CHECK.due("octet(243) of forty", forty.octet(243), -1);
    }

    static void promise46_octet_theLatestThatWasWritten() {
        ScaleNets x = Check.of(Check.FOUR);
        x.image();
        x.drop(3);
        CHECK.due("octet(1) behind an act", x.octet(1), 4);
        Check.tape(x, "set by bits;");
        x.set();
        CHECK.due("octet(1) behind set()", x.octet(1), 4);
        CHECK.due("on()", on(x, Edges.checked(1, 0)), 1);
        CHECK.due("octet(1) behind on()", x.octet(1), 4);
        x.image();
        CHECK.due("octet(1) of a shorter one", x.octet(1), 0);
        CHECK.due("octet(2) of a shorter one", x.octet(2) >= 0, true);
        CHECK.due("octet(3) of a shorter one", x.octet(3), -1);
    }

    // ---- 47

    static void promise47_on_anEmptyTape() {
        none("an empty tape");
        none("one byte", 149);
        none("two bytes", 0, 3 * 149 % 251);
    }

    static void promise47_on_withoutASet() {
        Edges.refused(CHECK, "on()", new ScaleNets(), 5, 0, x -> on(x, Edges.checked(FOUR)));
        Edges.refused(CHECK, "on() of no points", new ScaleNets(), 5, 0, x -> on(x, Edges.checked(0, 0)));
        Edges.refused(CHECK, "on() of an empty tape", new ScaleNets(), 5, 0, x -> on(x));
    }

    static void promise47_on_measures0To2() {
        for (int m = 0; m < 3; m++) {
            CHECK.due("has(1)", taken("measure " + m, Edges.checked(m, 0)).has(1), m);
        }
        none("measure 3", Edges.checked(3, 0));
        none("measure 255", Edges.checked(255, 0));
    }

    static void promise47_on_noneOneAndForty() {
        taken("no point", Edges.checked(0, 0));
        taken("one point", Edges.checked(0, 1, 0, 1, 2, 3, 10, 255));
        taken("forty points", imageOf(Check.of(Edges.fortyPoints())));
    }

    static void promise47_on_41PointsAreNone() {
        int[] forty = imageOf(Check.of(Edges.fortyPoints()));
        int[] rows = Arrays.copyOf(forty, 248);
        rows[1] = 41;
        int[] last = {40, 40, 0, 0, 3, 32};
        System.arraycopy(last, 0, rows, 242, 6);
        none("41 points", Edges.checked(rows));
        none("255 points", Edges.checked(Arrays.copyOf(new int[] {0, 255}, 2 + 6 * 255)));
    }

    static void promise47_on_asManyRowsAsItTells() {
        none("one row fewer", with(1, 5));
        none("one row more", with(1, 3));
        none("one byte fewer", Edges.checked(Arrays.copyOf(FOUR, 25)));
        none("one byte more", Edges.checked(Arrays.copyOf(FOUR, 27)));
        int[] behind = Arrays.copyOf(Edges.checked(FOUR), 28);
        none("a byte behind the last", behind);
        none("no points, and a row", Edges.checked(0, 0, 0, 1, 2, 3, 10, 255));
    }

    static void promise47_on_theLastByte() {
        int[] rows = Edges.checked(FOUR);
        for (int by : new int[] {1, 250, 2}) {
            int[] other = rows.clone();
            other[26] = (rows[26] + by) % 251;
            none("a last byte of " + other[26], other);
        }
    }

    static void promise47_on_theLastByteIsBelow251() {
        for (int z = 0; z < 256; z++) {
            int[] rows = Edges.checked(0, 1, 0, 0, 0, z, 10, 255);
            if (rows[8] == 0 || rows[8] == 4) {
                taken("a last byte of " + rows[8], rows);
                int[] other = rows.clone();
                other[8] += 251;
                none("a last byte of " + other[8], other);
            }
        }
    }

    static void promise47_on_numbers0To39() {
        CHECK.due("point(39, 3)", taken("number 39", Edges.checked(0, 1, 39, 1, 2, 3, 10, 255)).point(39, 3), 10);
        none("number 40", Edges.checked(0, 1, 40, 1, 2, 3, 10, 255));
        none("number 255", Edges.checked(0, 1, 255, 1, 2, 3, 10, 255));
    }

    static void promise47_on_unlikeNumbersRising() {
        taken("1, 2", Edges.checked(0, 3, 0, 0, 0, 0, 10, 255, 1, 8, 0, 0, 3, 0, 2, 16, 0, 0, 4, 0));
        taken("8, 39", Edges.checked(0, 3, 0, 0, 0, 0, 10, 255, 8, 8, 0, 0, 3, 0, 39, 16, 0, 0, 4, 0));
        none("1, 1", Edges.checked(0, 3, 0, 0, 0, 0, 10, 255, 1, 8, 0, 0, 3, 0, 1, 16, 0, 0, 4, 0));
        none("2, 1", Edges.checked(0, 3, 0, 0, 0, 0, 10, 255, 2, 8, 0, 0, 3, 0, 1, 16, 0, 0, 4, 0));
        none("0, 0", Edges.checked(0, 2, 0, 0, 0, 0, 10, 255, 0, 8, 0, 0, 3, 0));
    }

    static void promise47_on_unlikePlaces() {
        taken("one step", two(0, 1, 0, 0, 0, 0));
        none("at one place", two(0, 0, 0, 0, 0, 0));
        none("two at one place, not the root's", with(15, 3));
        taken("the corner", two(0, 255, 255, 255, 9, 0));
    }

    static void promise47_on_justOneOfLevel10() {
        none("none of level 10", Edges.checked(0, 1, 0, 1, 2, 3, 9, 255));
        none("none of level 10, with a parent", Edges.checked(0, 1, 0, 1, 2, 3, 9, 0));
        none("level 11", Edges.checked(0, 1, 0, 1, 2, 3, 11, 255));
        none("level 11 of another", two(0, 255, 255, 255, 11, 0));
        none("level 255", Edges.checked(0, 1, 0, 1, 2, 3, 255, 255));
        none("two of level 10", two(0, 255, 255, 255, 10, 255));
        none("two of level 10, one with a parent", two(0, 255, 255, 255, 10, 0));
        CHECK.due("the root", taken("the root last", Edges.checked(0, 2, 3, 9, 0, 0, 3, 7, 7, 0, 0, 0, 10, 255)).has(2), 7);
    }

    static void promise47_on_theRootHasNoParent() {
        none("itself", Edges.checked(0, 1, 0, 1, 2, 3, 10, 0));
        none("nobody", Edges.checked(0, 1, 0, 1, 2, 3, 10, 254));
        none("another", with(7, 1));
    }

    static void promise47_on_theParentIsAPoint() {
        none("no parent", two(0, 1, 0, 0, 0, 255));
        none("39", two(0, 1, 0, 0, 0, 39));
        none("40", two(0, 1, 0, 0, 0, 40));
        none("254", two(0, 1, 0, 0, 0, 254));
        none("itself", two(0, 1, 0, 0, 0, 1));
    }

    static void promise47_on_theParentIsOfTheNetOfOneLevelUp() {
        taken("a parent of one level up", Edges.checked(1, 3, 0, 0, 0, 0, 10, 255, 1, 100, 0, 0, 6, 0, 2, 100, 32, 0, 5, 1));
        none("a parent of its own level", Edges.checked(1, 3, 0, 0, 0, 0, 10, 255, 1, 10, 0, 0, 3, 0, 2, 10, 10, 0, 3, 1));
        taken("the same with the root", Edges.checked(1, 3, 0, 0, 0, 0, 10, 255, 1, 10, 0, 0, 3, 0, 2, 10, 10, 0, 3, 0));
        none("each the other's", Edges.checked(1, 3, 0, 0, 0, 0, 10, 255, 1, 10, 0, 0, 3, 2, 2, 10, 10, 0, 3, 1));
        none("number 39 without a parent", Edges.checked(1, 2, 0, 0, 0, 0, 10, 255, 39, 10, 0, 0, 3, 255));
        none("number 39 too far from its parent", Edges.checked(1, 2, 0, 0, 0, 0, 10, 255, 39, 10, 0, 0, 2, 0));
        none("number 39 too near to the root", Edges.checked(1, 2, 0, 0, 0, 0, 10, 255, 39, 10, 0, 0, 4, 0));
        taken("number 39 below 0", Edges.checked(1, 2, 0, 0, 0, 0, 10, 255, 39, 10, 0, 0, 3, 0));
        taken("number 38 below 39", Edges.checked(1, 2, 38, 10, 0, 0, 3, 39, 39, 0, 0, 0, 10, 255));
        none("number 0 without a parent", Edges.checked(1, 2, 0, 10, 0, 0, 3, 255, 1, 0, 0, 0, 10, 255));
        none("number 0 too far from its parent", Edges.checked(1, 2, 0, 10, 0, 0, 2, 1, 1, 0, 0, 0, 10, 255));
        none("number 0 too near to the root", Edges.checked(1, 2, 0, 10, 0, 0, 4, 1, 1, 0, 0, 0, 10, 255));
        taken("number 0 below 1", Edges.checked(1, 2, 0, 10, 0, 0, 3, 1, 1, 0, 0, 0, 10, 255));
        none("a parent of a lower level", Edges.checked(1, 3, 0, 0, 0, 0, 10, 255, 1, 10, 0, 0, 3, 2, 2, 10, 4, 0, 2, 1));
    }

    static void promise47_on_theParentIsNearerThan2ToTheLevelAnd1() {
        taken("1 at level 0", two(0, 1, 0, 0, 0, 0));
        none("2 at level 0", two(0, 2, 0, 0, 0, 0));
        taken("7 at level 2", two(0, 7, 0, 0, 2, 0));
        none("8 at level 2", two(0, 8, 0, 0, 2, 0));
        taken("511 at level 8", two(0, 255, 255, 1, 8, 0));
        none("512 at level 8", two(0, 255, 255, 2, 8, 0));
        taken("765 at level 9", two(0, 255, 255, 255, 9, 0));
    }

    static void promise47_on_aParentNeedNotBeTheNearest() {
        // 2 is 4 from the root and 6 from 1, and of LEVEL 2: either can be its PARENT.
        for (int parent = 0; parent < 2; parent++) {
            ScaleNets x = taken("parent " + parent, Edges.checked(0, 3, 0, 0, 0, 0, 10, 255, 1, 8, 0, 0, 3, 0, 2, 3, 1, 0, 2, parent));
            CHECK.due("parent of 2", x.point(2, 4), parent);
        }
    }

    static void promise47_on_noTwoOfANetNearerThan2ToItsLevel() {
        taken("2 at level 1", two(0, 2, 0, 0, 1, 0));
        none("1 at level 1", two(0, 1, 0, 0, 1, 0));
        taken("8 at level 3", two(0, 8, 0, 0, 3, 0));
        none("7 at level 3", two(0, 7, 0, 0, 3, 0));
        taken("512 at level 9", two(0, 255, 255, 2, 9, 0));
        none("511 at level 9", two(0, 255, 255, 1, 9, 0));
        taken("64 of two at level 6", Edges.checked(1, 3, 0, 0, 0, 0, 10, 255, 1, 100, 0, 0, 6, 0, 2, 100, 64, 0, 6, 0));
        none("63 of two at level 6", Edges.checked(1, 3, 0, 0, 0, 0, 10, 255, 1, 100, 0, 0, 6, 0, 2, 100, 63, 0, 6, 0));
        taken("63 at level 6 and 5", Edges.checked(1, 3, 0, 0, 0, 0, 10, 255, 1, 100, 0, 0, 6, 0, 2, 100, 63, 0, 5, 1));
    }

    static void promise47_on_byTheMeasureThatItTells() {
        taken("255 at level 7 by most", two(1, 255, 255, 255, 7, 0));
        none("765 at level 7 by sum", two(0, 255, 255, 255, 7, 0));
        taken("24 at level 4 by bits", two(2, 255, 255, 255, 4, 0));
        none("255 at level 4 by most", two(1, 255, 255, 255, 4, 0));
    }

    static void promise47_on_withoutNames() {
        ScaleNets x = taken("four points", Edges.checked(FOUR));
        for (int p = 0; p < 4; p++) {
            CHECK.due("letter(" + p + ", 0)", x.letter(p, 0), 0);
        }
        Check.tape(x, "a");
        CHECK.due("named a", x.named(), -1);
    }

    static void promise47_on_nothingCanBeUndone() {
        ScaleNets x = taken("four points", Edges.checked(FOUR));
        CHECK.due("has(5)", x.has(5), 0);
        CHECK.due("undo()", x.undo(), false);
        x.drop(1);
        CHECK.due("undo() of an act behind it", x.undo(), true);
        CHECK.same("undo()", Edges.image(x), "27 " + Arrays.toString(Edges.checked(FOUR)));
    }

    static void promise47_on_pointsThatItDoesNotTellAreGone() {
        ScaleNets x = taken("one point", Edges.checked(2, 1, 7, 1, 2, 3, 10, 255));
        CHECK.due("has(0)", x.has(0), 1);
        CHECK.due("has(2)", x.has(2), 7);
        CHECK.due("point(0, 3)", x.point(0, 3), -1);
        CHECK.due("add: the least number that is free", x.add(9, 9, 9), 0);
        ScaleNets none = taken("no point", Edges.checked(2, 0));
        CHECK.due("has(2)", none.has(2), -1);
    }

    static void promise47_on_theTapeGoes() {
        ScaleNets x = Check.of(Check.FOUR);
        on(x, Edges.checked(FOUR));
        CHECK.due("feed behind an image", x.feed(0, 0, 0, 0, 0), 20);
        on(x, 1, 2, 3);
        CHECK.due("feed behind none", x.feed(0, 0, 0, 0, 0), 20);
        ScaleNets fresh = new ScaleNets();
        on(fresh, Edges.checked(FOUR));
        CHECK.due("feed without a set", fresh.feed(0, 0, 0, 0, 0), 20);
    }

    static void promise47_on_anyImageOfItsOwn() {
        for (int seed = 0; seed < 60; seed++) {
            ScaleNets x = Edges.empty(new String[] {"sum", "most", "bits"}[seed % 3]);
            x.seed(seed);
            x.chance(40);
            x.chance(1 + seed % 40);
            taken("points by seed " + seed, imageOf(x));
        }
    }

    // ---- 48

    static void promise48_status_whats0To5() {
        ScaleNets x = new ScaleNets();
        for (int what = 0; what < 6; what++) {
            CHECK.due("status(" + what + ")", x.status(what), 0);
        }
        CHECK.each("status", Edges.noWhat(5), x::status, -1);
    }

    static void promise48_status_eachCallIsCountedWhereItIs() {
        ScaleNets x = Check.of(Check.FOUR);
        x.end(-1);
        x.set();
        x.see();
        x.add(0, 0, 0);
        x.drop(9);
        x.move(9, 0, 0, 0);
        x.by(0);
        x.by(7);
        x.chance(0);
        x.chance(41);
        for (int i = 0; i < 5; i++) {
            x.undo();
        }
        for (int i = 0; i < 3; i++) {
            x.seed(-1);
            x.on();
        }
        CHECK.same("refused calls", Arrays.toString(Edges.refusals(x)), "[1, 2, 3, 4, 5, 6]");
        ScaleNets none = Edges.empty("sum");
        none.lay();
        CHECK.same("lay()", Arrays.toString(Edges.refusals(none)), "[0, 0, 0, 1, 0, 0]");
        for (int i = 0; i < 82; i++) {
            none.feed(0, 0, 0, 0, 0);
        }
        CHECK.same("feed", Arrays.toString(Edges.refusals(none)), "[2, 0, 0, 1, 0, 0]");
    }

    static void promise48_status_callsThatAreTakenAreNotCounted() {
        ScaleNets x = Edges.rich();
        x.drop(1);
        x.by(1);
        x.lay();
        x.chance(1);
        x.undo();
        on(x, Edges.checked(FOUR));
        CHECK.same("calls that are taken", Arrays.toString(Edges.refusals(x)), "[0, 0, 0, 0, 0, 0]");
    }

    static void promise48_status_otherAnswersOfNoneAreNotCounted() {
        for (ScaleNets x : new ScaleNets[] {new ScaleNets(), Check.of(Check.FOUR)}) {
            int sum = x.fault(9) + x.has(9) + x.letter(-1, 0) + x.named() + x.point(-1, 0) + x.at(-1, 0, 0) + x.child(-1, 0);
            sum += x.far(-1, 0) + x.net(-1, 0) + x.above(-1, 0) + x.loose(-1, 0) + x.most(9) + x.seek(-1, 0, 0) + x.found(9);
            sum += x.pruned(-1, 0) + x.proves(-1, 0, 0, 0) + x.nth(-1, 0, 0, 0) + x.within(-1, 0, 0, 0) + x.remote(-1, 0, 0, 0);
            sum += x.centers(0, 0) + x.center(-1, 0) + x.pair(9) + x.thin(-1) + x.link(-2, 0) + x.group(-1, 0) + x.groups(-1);
            sum += x.comes(-1, 0, 0, 0) + x.goes(-1, 0) + x.anew(9) + x.fits(-2) + x.tells(9) + x.octet(-1) + x.status(9);
            CHECK.due("33 answers of NONE", sum, -33);
            CHECK.same("answers of NONE", Arrays.toString(Edges.refusals(x)), "[0, 0, 0, 0, 0, 0]");
        }
    }

    public static void main(String[] args) throws ReflectiveOperationException {
        CHECK.runAll(EdgesOfImagesTest.class);
    }
}
