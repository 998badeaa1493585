import java.math.BigInteger;
import java.util.Arrays;

/** Promises 37 to 44 at their edges: ACTS, what can be undone, DRAWS and the seed (Terms, II). */
public final class EdgesOfActsTest {
    private static final Check CHECK = new Check("EdgesOfActsTest");
    private static final String ONE = "set by sum;point a at 1 2 3;";

    /** What it should be: of each point told its number, LEVEL and PARENT. */
    private static void stand(String when, ScaleNets x, int... want) {
        int[] got = want.clone();
        for (int i = 0; i < want.length; i += 3) {
            got[i + 1] = x.point(want[i], 3);
            got[i + 2] = x.point(want[i], 4);
        }
        CHECK.same(when, Arrays.toString(got), Arrays.toString(want));
        CHECK.due("has(0) behind " + when, x.has(0), want.length / 3);
    }

    private static int flag(boolean answer) {
        return answer ? 1 : 0;
    }

    // ---- 37

    static void promise37_add_theLeastNumberThatIsFree() {
        ScaleNets x = Check.of(Check.FOUR);
        CHECK.due("behind the last", x.add(50, 0, 0), 4);
        x.drop(3);
        x.drop(1);
        CHECK.due("the first gap", x.add(60, 0, 0), 1);
        CHECK.due("the next gap", x.add(70, 0, 0), 3);
        CHECK.due("behind the last", x.add(80, 0, 0), 5);
        x.drop(0);
        CHECK.due("0", x.add(90, 0, 0), 0);
    }

    static void promise37_add_theFortiethIsTakenThe41stIsRefused() {
        ScaleNets x = Check.of(Edges.fortyPoints());
        ScaleNets twin = Check.of(Edges.fortyPoints());
        CHECK.due("the 41st", x.add(0, 1, 0), -1);
        CHECK.same("the 41st, counted", Arrays.toString(Edges.refusals(x)), "[0, 0, 1, 0, 0, 0]");
        CHECK.due("has(5)", x.has(5), 0);
        CHECK.same("the 41st", Edges.image(x), Edges.image(twin));
        x.drop(17);
        CHECK.due("the 40th", x.add(0, 1, 0), 17);
        CHECK.due("has(0)", x.has(0), 40);
    }

    static void promise37_add_whereOneIsIsRefused() {
        Edges.refusedOfRich(CHECK, "add at the root's", 2, -1, x -> x.add(0, 0, 0));
        Edges.refusedOfRich(CHECK, "add at the last one's", 2, -1, x -> x.add(100, 100, 100));
    }

    static void promise37_add_noSuchPlaceIsRefused() {
        for (int number : Edges.NO_COORDINATE) {
            for (int[] at : Edges.placesWith(number)) {
                Edges.refusedOfRich(CHECK, "add" + Arrays.toString(at), 2, -1, x -> x.add(at[0], at[1], at[2]));
            }
        }
    }

    static void promise37_add_theCornersOfAllPlaces() {
        ScaleNets x = Edges.empty("sum");
        CHECK.due("add(0, 0, 0)", x.add(0, 0, 0), 0);
        CHECK.due("add(255, 255, 255)", x.add(255, 255, 255), 1);
        stand("two corners", x, 0, 10, -1, 1, 9, 0);
    }

    static void promise37_add_withoutASetIsRefused() {
        ScaleNets x = new ScaleNets();
        Edges.refused(CHECK, "add", x, 2, -1, y -> y.add(1, 1, 1));
        CHECK.due("has(0)", x.has(0), 0);
    }

    static void promise37_add_theFirstOneIsTheRoot() {
        ScaleNets x = Edges.empty("bits");
        CHECK.due("add", x.add(7, 7, 7), 0);
        stand("add", x, 0, 10, -1);
        x.drop(0);
        CHECK.due("add again", x.add(8, 8, 8), 0);
        stand("add again", x, 0, 10, -1);
        CHECK.due("letter(0, 0)", x.letter(0, 0), 0);
    }

    // ---- 38

    static void promise38_drop_noSuchPointIsRefused() {
        for (int p : new int[] {-1, 5, 39, 40, Integer.MIN_VALUE, Integer.MAX_VALUE}) {
            Edges.refusedOfRich(CHECK, "drop(" + p + ")", 2, 0, x -> flag(x.drop(p)));
        }
        Edges.refused(CHECK, "drop(0) of a new object", new ScaleNets(), 2, 0, x -> flag(x.drop(0)));
        ScaleNets x = Check.of(Check.FOUR);
        x.drop(2);
        Edges.refused(CHECK, "drop(2) again", x, 2, 0, y -> flag(y.drop(2)));
    }

    static void promise38_drop_theLastNumberAndTheLastPoint() {
        ScaleNets x = Check.of(Edges.fortyPoints());
        CHECK.due("drop(39)", x.drop(39), true);
        CHECK.due("has(0)", x.has(0), 39);
        ScaleNets one = Check.of(ONE);
        CHECK.due("drop(0)", one.drop(0), true);
        stand("drop(0)", one);
        CHECK.due("has(2)", one.has(2), -1);
        CHECK.due("has(1): the set stays", one.has(1), 0);
    }

    static void promise38_drop_oneWithoutChildrenLeavesTheOthers() {
        ScaleNets x = Check.of(Check.FOUR);
        x.drop(3);
        stand("drop(3)", x, 0, 10, -1, 1, 1, 0, 2, 0, 1);
    }

    static void promise38_drop_oneJustAt2ToTheNextLevelRises() {
        ScaleNets x = Check.of("set by most;point r at 0 0 0;point g at 3 0 0;point p at 2 0 0;");
        stand("set()", x, 0, 10, -1, 1, 1, 0, 2, 0, 1);
        x.drop(1);
        stand("drop(1): r is 2 from p", x, 0, 10, -1, 2, 1, 0);
    }

    static void promise38_drop_oneNearerThan2ToTheNextLevelStays() {
        ScaleNets x = Check.of("set by most;point r at 0 0 0;point g at 3 0 0;point s at 2 2 0;point p at 3 1 0;");
        stand("set()", x, 0, 10, -1, 1, 1, 0, 2, 1, 0, 3, 0, 1);
        x.drop(1);
        stand("drop(1): s is 1 from p", x, 0, 10, -1, 2, 1, 0, 3, 0, 2);
    }

    static void promise38_drop_oneRisesUpTo9() {
        ScaleNets x = Check.of("set by sum;point r at 255 255 255;point g at 0 0 1;point p at 0 0 0;");
        stand("set()", x, 0, 10, -1, 1, 9, 0, 2, 0, 1);
        x.drop(1);
        stand("drop(1): from level 0", x, 0, 10, -1, 2, 9, 0);
    }

    static void promise38_drop_ofLikeNearParentsTheLeastNumber() {
        // p is left by g; b and a are 2 from it each, and of the NET of 2.
        ScaleNets x = Check.of("set by most;point r at 0 0 0;point b at 98 0 0;point a at 102 0 0;point g at 100 2 0;point p at 100 1 0;");
        CHECK.due("parent of p ahead", x.point(4, 4), 3);
        x.drop(3);
        CHECK.due("level of p", x.point(4, 3), 1);
        CHECK.due("parent of p", x.point(4, 4), 1);
    }

    static void promise38_drop_theHighestLevelIsTakenFirst() {
        ScaleNets x = Check.of("set by sum;point r at 255 255 255;point g at 100 0 0;point p at 97 0 0;point q at 96 0 0;"
                + "point s at 104 0 0;");
        stand("set()", x, 0, 10, -1, 1, 9, 0, 2, 1, 1, 3, 0, 2, 4, 2, 1);
        x.drop(1);
        // s (LEVEL 2) rises to 9 ahead of p, which then has s near.
        stand("drop(1)", x, 0, 10, -1, 2, 2, 4, 3, 0, 2, 4, 9, 0);
    }

    static void promise38_drop_ofLikeLevelsTheLeastNumberIsTakenFirst() {
        ScaleNets x = Check.of("set by sum;point r at 255 255 255;point g at 100 0 0;point s at 104 0 0;point p at 96 0 0;");
        stand("set()", x, 0, 10, -1, 1, 9, 0, 2, 2, 1, 3, 2, 1);
        x.drop(1);
        stand("drop(1)", x, 0, 10, -1, 2, 9, 0, 3, 3, 2);
    }

    static void promise38_drop_theRootsFirstChildIsTheRoot() {
        ScaleNets x = Check.of(Check.FOUR);
        x.drop(0);
        // d has the highest LEVEL of its children, b the less number.
        stand("drop(0)", x, 1, 3, 3, 2, 0, 1, 3, 10, -1);
        CHECK.due("has(2)", x.has(2), 3);
        ScaleNets star = Edges.star();
        star.drop(0);
        CHECK.due("of like levels the least number", star.has(2), 1);
    }

    static void promise38_drop_thoseBelowStayWithTheirParents() {
        ScaleNets x = Check.of(Edges.CHAIN);
        x.drop(1);
        // The ROOT is 509 from c, nearer than 512: c stays of LEVEL 8; d and on stay with their PARENTS.
        CHECK.due("level of c", x.point(2, 3), 8);
        CHECK.due("parent of c", x.point(2, 4), 0);
        for (int p = 3; p < 11; p++) {
            CHECK.due("level of " + p, x.point(p, 3), 10 - p);
            CHECK.due("parent of " + p, x.point(p, 4), p - 1);
        }
    }

    static void promise38_drop_childrenOfLevel9AreTakenToo() {
        ScaleNets x = Check.of(Edges.CHAIN);
        x.drop(0);
        CHECK.due("has(2)", x.has(2), 1);
        CHECK.due("level of b", x.point(1, 3), 10);
        CHECK.due("parent of b", x.point(1, 4), -1);
        CHECK.due("level of c", x.point(2, 3), 8);
        CHECK.due("parent of c", x.point(2, 4), 1);
    }

    static void promise38_drop_ofTheLastNumbers() {
        ScaleNets x = Edges.fourAt(36, 37, 38, 39);
        x.drop(36);
        stand("drop(36)", x, 37, 3, 39, 38, 0, 37, 39, 10, -1);
        ScaleNets y = Edges.fourAt(39, 38, 37, 36);
        y.drop(39);
        stand("drop(39)", y, 36, 10, -1, 37, 0, 38, 38, 3, 36);
        ScaleNets z = Edges.fourAt(36, 37, 39, 38);
        z.drop(37);
        stand("drop(37)", z, 36, 10, -1, 38, 3, 36, 39, 2, 36);
    }

    // ---- 39

    static void promise39_move_whereOneIsIsRefused() {
        Edges.refusedOfRich(CHECK, "move to where it is", 2, 0, x -> flag(x.move(1, 3, 0, 0)));
        Edges.refusedOfRich(CHECK, "move the root to where it is", 2, 0, x -> flag(x.move(0, 0, 0, 0)));
        Edges.refusedOfRich(CHECK, "move to where another is", 2, 0, x -> flag(x.move(1, 0, 9, 0)));
    }

    static void promise39_move_noSuchPlaceIsRefused() {
        for (int number : Edges.NO_COORDINATE) {
            for (int[] at : Edges.placesWith(number)) {
                Edges.refusedOfRich(CHECK, "move to" + Arrays.toString(at), 2, 0, x -> flag(x.move(1, at[0], at[1], at[2])));
            }
        }
    }

    static void promise39_move_noSuchPointIsRefused() {
        for (int p : new int[] {-1, 5, 39, 40, Integer.MIN_VALUE, Integer.MAX_VALUE}) {
            Edges.refusedOfRich(CHECK, "move " + p, 2, 0, x -> flag(x.move(p, 7, 7, 7)));
        }
        Edges.refused(CHECK, "move of a new object", new ScaleNets(), 2, 0, x -> flag(x.move(0, 7, 7, 7)));
    }

    static void promise39_move_goesThenComes() {
        ScaleNets x = Check.of(Check.FOUR);
        CHECK.due("move(1, 5, 0, 0)", x.move(1, 5, 0, 0), true);
        // c rose to 2 when b went, so b comes below c.
        stand("move", x, 0, 10, -1, 1, 0, 2, 2, 2, 0, 3, 3, 0);
        CHECK.due("at(5, 0, 0)", x.at(5, 0, 0), 1);
        CHECK.due("at(3, 0, 0)", x.at(3, 0, 0), -1);
    }

    static void promise39_move_byItsNumberWithItsName() {
        ScaleNets x = Check.of(Check.FOUR);
        x.drop(0);
        CHECK.due("move(2, ..), though 0 is free", x.move(2, 200, 200, 200), true);
        CHECK.due("at(200, 200, 200)", x.at(200, 200, 200), 2);
        CHECK.due("letter(2, 0)", x.letter(2, 0), 3);
        CHECK.due("point(0, 0)", x.point(0, 0), -1);
        x.add(1, 1, 1);
        x.move(0, 2, 2, 2);
        CHECK.due("letter(0, 0) of one without a name", x.letter(0, 0), 0);
    }

    static void promise39_move_theOnlyOneIsTheRootAgain() {
        ScaleNets x = Check.of(ONE);
        CHECK.due("move", x.move(0, 255, 255, 255), true);
        stand("move", x, 0, 10, -1);
    }

    static void promise39_move_theRootIsTheRootNoMore() {
        ScaleNets x = Check.of(Check.FOUR);
        CHECK.due("move", x.move(0, 0, 10, 0), true);
        stand("move", x, 0, 0, 3, 1, 3, 3, 2, 0, 1, 3, 10, -1);
    }

    static void promise39_move_oneOfFortyIsOneAct() {
        ScaleNets x = Check.of(Edges.fortyPoints());
        CHECK.due("move", x.move(39, 0, 1, 0), true);
        CHECK.due("has(0)", x.has(0), 40);
        CHECK.due("has(5)", x.has(5), 1);
    }

    // ---- 40

    static void promise40_by_noSuchMeasureIsRefused() {
        for (int measure : Edges.noWhat(2)) {
            Edges.refusedOfRich(CHECK, "by(" + measure + ")", 3, 0, x -> flag(x.by(measure)));
        }
    }

    static void promise40_by_theSameMeasureIsRefused() {
        Edges.refusedOfRich(CHECK, "by(0)", 3, 0, x -> flag(x.by(0)));
        String[] measures = {"sum", "most", "bits"};
        for (int m = 0; m < 3; m++) {
            ScaleNets x = Edges.empty(measures[m]);
            for (int other = 0; other < 3; other++) {
                CHECK.due("by(" + other + ") of " + measures[m], x.by(other), other != m);
                if (other != m) {
                    x.undo();
                }
            }
            CHECK.due("status(3)", x.status(3), 1);
        }
    }

    static void promise40_by_withoutASetIsRefused() {
        for (int m = 0; m < 3; m++) {
            int measure = m;
            Edges.refused(CHECK, "by(" + m + ")", new ScaleNets(), 3, 0, x -> flag(x.by(measure)));
        }
    }

    static void promise40_by_withoutPointsIsAnAct() {
        ScaleNets x = Edges.empty("sum");
        CHECK.due("by(2)", x.by(2), true);
        CHECK.due("has(1)", x.has(1), 2);
        CHECK.due("has(5)", x.has(5), 1);
        CHECK.due("undo()", x.undo(), true);
        CHECK.due("has(1)", x.has(1), 0);
    }

    static void promise40_by_allComeAnewByNumbers() {
        ScaleNets x = Check.of(Check.FOUR);
        x.drop(0);
        CHECK.due("by(1)", x.by(1), true);
        stand("by(1)", x, 1, 10, -1, 2, 0, 1, 3, 3, 1);
        CHECK.due("letter(1, 0)", x.letter(1, 0), 2);
    }

    // ---- 41

    static void promise41_lay_withoutPointsIsRefused() {
        Edges.refused(CHECK, "lay() of a new object", new ScaleNets(), 3, -1, ScaleNets::lay);
        Edges.refused(CHECK, "lay() of an empty set", Edges.empty("sum"), 3, -1, ScaleNets::lay);
        ScaleNets x = Check.of(ONE);
        x.drop(0);
        Edges.refused(CHECK, "lay() behind the last went", x, 3, -1, ScaleNets::lay);
    }

    static void promise41_lay_noneHaveAnotherLevelIsAnActToo() {
        ScaleNets x = Check.of(ONE);
        CHECK.due("lay() of one", x.lay(), 0);
        CHECK.due("has(5)", x.has(5), 1);
        ScaleNets forty = Check.of(Edges.fortyPoints());
        CHECK.due("lay() of forty", forty.lay(), 0);
        CHECK.due("has(0)", forty.has(0), 40);
    }

    static void promise41_lay_howManyHaveAnotherLevel() {
        ScaleNets x = Check.of(Check.FOUR);
        x.drop(0);
        CHECK.due("lay()", x.lay(), 2);
        stand("lay()", x, 1, 10, -1, 2, 0, 1, 3, 3, 1);
        CHECK.due("lay() again", x.lay(), 0);
        CHECK.due("letter(3, 0)", x.letter(3, 0), 4);
        CHECK.due("lay(), number 0 and the root, 1", Edges.rootIsOne(20, 0, 0).lay(), 2);
    }

    static void promise41_lay_ofTheLastNumbers() {
        CHECK.due("lay() as they are", Edges.fourAt(36, 37, 38, 39).lay(), 0);
        ScaleNets x = Edges.fourAt(36, 37, 39, 38);
        x.drop(36);
        // d, 38, is the root and b, 37, of LEVEL 3; anew b is the root and d of 3, and c, 39, stays at 0.
        CHECK.due("lay()", x.lay(), 2);
        stand("lay()", x, 37, 10, -1, 38, 3, 37, 39, 0, 37);
    }

    static void promise41_lay_toLevel0() {
        ScaleNets x = Check.of(Check.FOUR);
        x.drop(1);
        x.add(3, 0, 0);
        CHECK.due("lay()", x.lay(), 2);
        stand("lay()", x, 0, 10, -1, 1, 1, 0, 2, 0, 1, 3, 3, 0);
    }

    // ---- 42

    private static int drawn(ScaleNets like, int m) {
        BigInteger x = BigInteger.valueOf(1103515245L).multiply(BigInteger.valueOf(like.has(6)))
                .add(BigInteger.valueOf(12345)).mod(BigInteger.TWO.pow(31));
        like.seed(x.intValueExact());
        return x.divide(BigInteger.valueOf(64)).mod(BigInteger.valueOf(m)).intValueExact();
    }

    /** The seed behind that many draws. */
    private static int seedBehind(int seed, int draws) {
        ScaleNets like = new ScaleNets();
        like.seed(seed);
        for (int i = 0; i < draws; i++) {
            drawn(like, 1);
        }
        return like.has(6);
    }

    /** The least seed whose first DRAW of 3 is the wanted one. */
    private static int seedThatDraws(int wanted) {
        for (int seed = 0; seed < 1000; seed++) {
            ScaleNets like = new ScaleNets();
            like.seed(seed);
            if (drawn(like, 3) == wanted) {
                return seed;
            }
        }
        return -1;
    }

    private static int[] placeDrawn(int seed) {
        ScaleNets like = new ScaleNets();
        like.seed(seed);
        drawn(like, 3);
        return new int[] {drawn(like, 256), drawn(like, 256), drawn(like, 256)};
    }

    static void promise42_chance_from1To40() {
        ScaleNets x = Edges.empty("sum");
        CHECK.due("chance(1)", x.chance(1) >= 0, true);
        CHECK.due("chance(40)", x.chance(40) >= 0, true);
        CHECK.due("has(5): one act each", x.has(5), 2);
        CHECK.due("status(3)", x.status(3), 0);
    }

    static void promise42_chance_0And41AreRefused() {
        for (int n : new int[] {0, 41, -1, Integer.MIN_VALUE, Integer.MAX_VALUE}) {
            Edges.refusedOfRich(CHECK, "chance(" + n + ")", 3, -1, x -> x.chance(n));
        }
    }

    static void promise42_chance_withoutASetIsRefused() {
        ScaleNets x = new ScaleNets();
        Edges.refused(CHECK, "chance(1)", x, 3, -1, y -> y.chance(1));
        CHECK.due("has(6): nothing was drawn", x.has(6), 1);
    }

    static void promise42_chance_draws0And1LetAPointCome() {
        for (int draw = 0; draw < 2; draw++) {
            int seed = seedThatDraws(draw);
            int[] at = placeDrawn(seed);
            ScaleNets x = Edges.empty("sum");
            x.seed(seed);
            CHECK.due("chance(1) that draws " + draw, x.chance(1), 1);
            CHECK.due("at the place drawn", x.at(at[0], at[1], at[2]), 0);
            CHECK.due("the seed behind four draws", x.has(6), seedBehind(seed, 4));
        }
    }

    /** Each seed that draws a 2: the one that goes is the k-th of those that there are, by a DRAW of how many. */
    static void promise42_chance_draw2LetsTheKthGo() {
        for (int seed = 0; seed < 60; seed++) {
            ScaleNets like = new ScaleNets();
            like.seed(seed);
            if (drawn(like, 3) == 2) {
                kthGoes(seed, drawn(like, 3));
            }
        }
    }

    private static void kthGoes(int seed, int k) {
        ScaleNets x = Check.of(Check.FOUR);
        x.drop(0);
        x.seed(seed);
        CHECK.due("chance(1) by seed " + seed, x.chance(1), 2);
        CHECK.due("that one, rising, went", x.point(k + 1, 3), -1);
        CHECK.due("the seed behind two draws", x.has(6), seedBehind(seed, 2));
        ScaleNets one = Check.of(ONE);
        one.seed(seed);
        CHECK.due("the only one goes by any draw", one.chance(1), 0);
    }

    static void promise42_chance_noneToGoIsADrawOf1() {
        int seed = seedThatDraws(2);
        ScaleNets x = Edges.empty("sum");
        x.seed(seed);
        CHECK.due("chance(1)", x.chance(1), 0);
        CHECK.due("the seed behind two draws", x.has(6), seedBehind(seed, 2));
        CHECK.due("it is an act", x.has(5), 1);
    }

    static void promise42_chance_nobodyComesAsThe41st() {
        int seed = seedThatDraws(0);
        ScaleNets x = Check.of(Edges.fortyPoints());
        x.seed(seed);
        CHECK.due("chance(1)", x.chance(1), 40);
        int[] at = placeDrawn(seed);
        CHECK.due("at the place drawn", x.at(at[0], at[1], at[2]), -1);
        CHECK.due("the seed behind four draws", x.has(6), seedBehind(seed, 4));
        CHECK.due("it is an act", x.has(5), 1);
    }

    static void promise42_chance_nobodyComesWhereOneIs() {
        int seed = seedThatDraws(1);
        int[] at = placeDrawn(seed);
        ScaleNets x = Edges.empty("sum");
        x.add(at[0], at[1], at[2]);
        x.seed(seed);
        CHECK.due("chance(1)", x.chance(1), 1);
        CHECK.due("the seed behind four draws", x.has(6), seedBehind(seed, 4));
    }

    static void promise42_chance_theSeedWrapsAt2ToThe31() {
        for (int seed : new int[] {Integer.MAX_VALUE, Integer.MAX_VALUE - 1, 1 << 30, 0, 1}) {
            ScaleNets x = Edges.empty("sum");
            ScaleNets like = new ScaleNets();
            x.seed(seed);
            like.seed(seed);
            int draws = drawn(like, 3) == 2 ? 2 : 4;
            x.chance(1);
            CHECK.due("has(6) behind seed " + seed, x.has(6), seedBehind(seed, draws));
            CHECK.due("it is not below 0", x.has(6) >= 0, true);
        }
    }

    static void promise42_chance_nTimesIsAsOneAfterAnother() {
        ScaleNets x = Edges.empty("most");
        ScaleNets y = Edges.empty("most");
        int many = x.chance(40);
        for (int i = 0; i < 40; i++) {
            y.chance(1);
        }
        CHECK.due("has(0)", y.has(0), many);
        CHECK.due("has(6)", y.has(6), x.has(6));
        CHECK.same("forty times", Edges.image(x), Edges.image(y));
        CHECK.due("undo() of all forty", x.undo(), true);
        CHECK.due("has(0)", x.has(0), 0);
    }

    // ---- 43

    static void promise43_undo_noneCanBeIsRefused() {
        Edges.refused(CHECK, "undo() of a new object", new ScaleNets(), 4, 0, x -> flag(x.undo()));
        Edges.refused(CHECK, "undo() behind set()", Check.of(Check.FOUR), 4, 0, x -> flag(x.undo()));
        ScaleNets x = Edges.rich();
        x.undo();
        x.undo();
        Edges.refused(CHECK, "undo() of a third", x, 4, 0, y -> flag(y.undo()));
    }

    static void promise43_undo_theLast20Of20AndOf21() {
        for (int acts : new int[] {20, 21}) {
            ScaleNets x = Edges.empty("most");
            for (int i = 0; i < acts; i++) {
                x.add(i, 0, 0);
            }
            for (int i = 1; i <= 20; i++) {
                CHECK.due("undo() " + i + " of " + acts, x.undo(), true);
                CHECK.due("has(0)", x.has(0), acts - i);
                CHECK.due("has(5)", x.has(5), 20 - i);
            }
            CHECK.due("undo() 21 of " + acts, x.undo(), false);
            CHECK.due("has(0)", x.has(0), acts - 20);
            CHECK.due("status(4)", x.status(4), 1);
        }
    }

    static void promise43_undo_roundAndRound() {
        ScaleNets x = Edges.empty("most");
        for (int turn = 0; turn < 3; turn++) {
            for (int i = 0; i < 15; i++) {
                CHECK.due("add", x.add(i, turn, 0) >= 0, true);
            }
            for (int i = 0; i < 15; i++) {
                CHECK.due("undo()", x.undo(), true);
            }
            CHECK.due("has(0)", x.has(0), 0);
        }
        CHECK.due("has(5)", x.has(5), 0);
        CHECK.due("undo()", x.undo(), false);
    }

    static void promise43_undo_eachKindOfAct() {
        for (int kind = 0; kind < 6; kind++) {
            ScaleNets x = Check.of(Check.FOUR);
            x.drop(1);
            String ahead = Edges.points(x);
            switch (kind) {
                case 0: x.add(9, 9, 9); break;
                case 1: x.drop(0); break;
                case 2: x.move(2, 90, 9, 9); break;
                case 3: x.by(2); break;
                case 4: x.chance(40); break;
                default: x.lay(); break;
            }
            CHECK.due("has(5) of kind " + kind, x.has(5), 2);
            CHECK.due("undo() of kind " + kind, x.undo(), true);
            CHECK.same("undo() of kind " + kind, Edges.points(x), ahead);
            CHECK.due("has(5) of kind " + kind, x.has(5), 1);
        }
    }

    static void promise43_undo_refusedCallsAreNoActs() {
        ScaleNets x = Check.of(Check.FOUR);
        x.add(0, 0, 0);
        x.drop(4);
        x.move(0, 0, 0, 0);
        x.by(0);
        x.chance(41);
        x.undo();
        CHECK.due("has(5)", x.has(5), 0);
        CHECK.due("undo()", x.undo(), false);
        CHECK.due("status(4)", x.status(4), 2);
    }

    static void promise43_undo_seedSeenAndSearchedStay() {
        ScaleNets x = Check.of(Check.FOUR);
        x.chance(5);
        int seed = x.has(6);
        Check.tape(x, x.net(0, 0), x.net(0, 1), 0, 3);
        CHECK.due("see()", x.see(), 1);
        x.seek(0, 9, 0);
        int[] found = Edges.found(x);
        x.image();
        int[] octets = Edges.octets(x);
        CHECK.due("undo()", x.undo(), true);
        CHECK.due("has(6)", x.has(6), seed);
        CHECK.due("has(4)", x.has(4), 1);
        CHECK.same("undo()", Arrays.toString(Edges.found(x)), Arrays.toString(found));
        CHECK.same("undo()", Arrays.toString(Edges.octets(x)), Arrays.toString(octets));
    }

    static void promise43_undo_isNoActItself() {
        ScaleNets x = Check.of(Check.FOUR);
        x.drop(1);
        x.undo();
        CHECK.due("has(5)", x.has(5), 0);
        CHECK.due("undo() of the undo()", x.undo(), false);
    }

    // ---- 44

    static void promise44_seed_from0ToTheGreatest() {
        ScaleNets x = new ScaleNets();
        CHECK.due("seed(0)", x.seed(0), true);
        CHECK.due("has(6)", x.has(6), 0);
        CHECK.due("seed(max)", x.seed(Integer.MAX_VALUE), true);
        CHECK.due("has(6)", x.has(6), Integer.MAX_VALUE);
        CHECK.due("status(5)", x.status(5), 0);
    }

    static void promise44_seed_below0IsRefused() {
        Edges.refusedOfRich(CHECK, "seed(-1)", 5, 0, x -> flag(x.seed(-1)));
        Edges.refusedOfRich(CHECK, "seed(min)", 5, 0, x -> flag(x.seed(Integer.MIN_VALUE)));
        Edges.refused(CHECK, "seed(-1) of a new object", new ScaleNets(), 5, 0, x -> flag(x.seed(-1)));
    }

    static void promise44_seed_isNoActAndNeedsNoSet() {
        ScaleNets x = new ScaleNets();
        CHECK.due("seed(5)", x.seed(5), true);
        CHECK.due("has(5)", x.has(5), 0);
        ScaleNets rich = Edges.rich();
        rich.seed(5);
        CHECK.due("has(5)", rich.has(5), 2);
    }

    public static void main(String[] args) throws ReflectiveOperationException {
        CHECK.runAll(EdgesOfActsTest.class);
    }
}
