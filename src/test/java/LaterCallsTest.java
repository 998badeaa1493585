import java.util.ArrayList;
import java.util.Arrays;
import java.util.List;
import java.util.function.Consumer;
import java.util.function.ToIntFunction;

/** Promises that are kept only together: a call, others behind it, and what the first one left for the last. */
public final class LaterCallsTest {
    private static final Check CHECK = new Check("LaterCallsTest");
    private static final int BLANKS = 0x20202020;
    private static final String TOLD_POINTS = "by 0, root 0, 0:0,0,0,10,-1 1:30,0,0,4,0 2:34,0,0,2,1 3:0,90,0,6,0 "
            + "4:200,200,200,9,0 5:0,91,0,0,3";
    /** One of each kind of ACT; of Kept.TOLD, with the seed 1, they can be done in any order. */
    private static final List<Consumer<ScaleNets>> ACTS = List.of(x -> x.add(1, 1, 1), x -> x.drop(0), x -> x.move(1, 9, 9, 9),
            x -> x.by(2), ScaleNets::lay, x -> x.chance(1));

    private static ScaleNets told() {
        return Check.of(Kept.TOLD);
    }

    private static void seen(ScaleNets x, int... rows) {
        Check.tape(x, rows);
        x.see();
    }

    private static int blanks(ScaleNets x) {
        return x.feed(BLANKS, BLANKS, BLANKS, BLANKS, BLANKS);
    }

    private static boolean on(ScaleNets x, int... image) {
        Check.tape(x, image);
        return x.on();
    }

    // ---- the tape

    static void promise02_feed_goesOnBehindARefusedOne() {
        ScaleNets x = new ScaleNets();
        for (int i = 1; i <= 80; i++) {
            CHECK.due("feed " + i, blanks(x), 20 * i);
        }
        CHECK.due("feed of a full tape", blanks(x), -1);
        CHECK.due("end(1580)", x.end(1580), true);
        CHECK.due("feed", blanks(x), 1600);
        CHECK.due("feed of a full tape", blanks(x), -1);
        CHECK.due("status(0)", x.status(0), 2);
        CHECK.due("set() of blanks", x.set(), -1);
        CHECK.due("fault(1)", x.fault(1), 1600);
        CHECK.due("feed behind it", blanks(x), 20);
    }

    static void promise03_end_cutsWhatLaterBytesTakeThePlaceOf() {
        ScaleNets x = new ScaleNets();
        Check.tape(x, "set by sum;point a at 1 1 1;");
        x.end(7);
        CHECK.due("feed", x.feed(0x62697473, 0x3b202020, BLANKS, BLANKS, BLANKS), 27);
        CHECK.due("set()", x.set(), 1);
        CHECK.same("set()", Kept.points(x), "by 2, root -1,");
    }

    static void promise03_end_refusedBehindATapeThatWent() {
        List<ToIntFunction<ScaleNets>> takers = List.of(ScaleNets::set, ScaleNets::named, x -> x.proves(0, 0, 0, 0),
                ScaleNets::see, x -> x.on() ? 1 : 0);
        for (int i = 0; i < takers.size(); i++) {
            ScaleNets x = told();
            Check.tape(x, "a text that is none of all these");
            takers.get(i).applyAsInt(x);
            CHECK.due("end(1) behind call " + i, x.end(1), false);
            CHECK.due("end(0) behind call " + i, x.end(0), true);
            CHECK.due("status(0)", x.status(0), 1);
            CHECK.due("feed behind call " + i, x.feed(0x646f7420, 0, 0, 0, 0), 20);
            x.end(3);
            CHECK.due("named() behind call " + i, x.named(), 3);
        }
    }

    static void promise04_set_nothingOfALongerTextIsRead() {
        ScaleNets x = told();
        x.feed(0x73657420, 0x62792073, 0x756d3b20, BLANKS, BLANKS);
        CHECK.due("set()", x.set(), 1);
        CHECK.same("set()", Kept.points(x), "by 0, root -1,");
        x.feed(0x73657420, BLANKS, BLANKS, BLANKS, BLANKS);
        x.end(3);
        CHECK.due("set()", x.set(), -1);
        CHECK.due("fault(1)", x.fault(1), 3);
    }

    static void promise08_named_betweenTwoHalvesOfAText() {
        ScaleNets x = told();
        Check.tape(x, "set by most;point a ");
        CHECK.due("named()", x.named(), -1);
        x.feed(0x61742031, 0x20312031, 0x3b202020, BLANKS, BLANKS);
        CHECK.due("set() of the second half", x.set(), -1);
        CHECK.due("fault(0)", x.fault(0), 1);
        CHECK.due("fault(1)", x.fault(1), 0);
        CHECK.same("set()", Kept.points(x), TOLD_POINTS);
    }

    static void promise05_fault_ofTheLatestSetWhateverIsFedThen() {
        ScaleNets x = new ScaleNets();
        Check.tape(x, "set by sum;point at");
        x.set();
        Check.tape(x, "set by sum;");
        CHECK.due("fault(1) ahead of set()", x.fault(1), 17);
        x.set();
        CHECK.due("fault(0) behind set()", x.fault(0), 0);
        CHECK.due("fault(1) behind set()", x.fault(1), -1);
        x.see();
        CHECK.due("fault(0) behind a refused see()", x.fault(0), 0);
        CHECK.due("status(1)", x.status(1), 2);
    }

    // ---- what was searched

    static void promise18_found_staysBehindEachAct() {
        ScaleNets x = told();
        x.seek(0, 90, 0);
        String due = "[0, 4, 1, 2] 0 6 90 2";
        CHECK.same("seek", Kept.searched(x), due);
        for (int i = 0; i < ACTS.size(); i++) {
            ACTS.get(i).accept(x);
            CHECK.same("act " + i, Kept.searched(x), due);
        }
        for (int i = 0; i < ACTS.size(); i++) {
            CHECK.due("undo()", x.undo(), true);
            CHECK.same("undo()", Kept.searched(x), due);
        }
        CHECK.same("undo()", Kept.points(x), TOLD_POINTS);
        x.remote(1, 2, 3, 0);
        x.nth(1, 2, 3, 0);
        x.within(1, 2, 3, 4);
        CHECK.same("other searches", Kept.searched(x), due);
    }

    static void promise18_found_staysWhenAllPointsWent() {
        ScaleNets x = told();
        x.seek(0, 90, 0);
        for (int p = 0; p < 6; p++) {
            x.drop(p);
        }
        CHECK.due("seek without points", x.seek(0, 90, 0), -1);
        CHECK.same("seek without points", Kept.searched(x), "[0, 4, 1, 2] 0 6 90 2");
        x.add(0, 90, 9);
        CHECK.due("seek", x.seek(0, 90, 0), 0);
        CHECK.same("seek", Kept.searched(x), "[9, 1, 0, 0] -1 -1 -1 -1");
    }

    static void promise18_found_untilASetAndBehindAnImage() {
        ScaleNets x = told();
        x.seek(0, 90, 0);
        on(x, Edges.checked(2, 0));
        CHECK.same("on()", Kept.searched(x), "[0, 4, 1, 2] 0 6 90 2");
        Check.tape(x, "set by sum;point");
        x.set();
        CHECK.same("set() with a fault", Kept.searched(x), "[0, 4, 1, 2] 0 6 90 2");
        Check.tape(x, Kept.TOLD);
        x.set();
        CHECK.same("set()", Kept.searched(x), "[-1, -1, -1, -1] -1 -1 -1 -1");
    }

    static void promise20_proves_ofThePointsByNow() {
        ScaleNets x = told();
        x.seek(0, 90, 0);
        Check.tape(x, x.pruned(0, 0), x.pruned(0, 1));
        CHECK.due("what was pruned", x.proves(0, 90, 0, x.found(0)), 2);
        x.drop(1);
        Check.tape(x, x.pruned(0, 0), x.pruned(0, 1));
        CHECK.due("cid rose, so nobody is spared", x.proves(0, 90, 0, x.found(0)), 0);
        x.undo();
        Check.tape(x, x.pruned(0, 0), x.pruned(0, 1));
        CHECK.due("behind undo()", x.proves(0, 90, 0, x.found(0)), 2);
        x.drop(0);
        Check.tape(x, x.pruned(0, 0), x.pruned(0, 1));
        CHECK.due("of one that went", x.proves(0, 90, 0, x.found(0)), -1);
    }

    static void promise20_proves_theEmptyTapeBehindItIsAProofWithoutRows() {
        ScaleNets x = told();
        Check.tape(x, 0, 6);
        CHECK.due("a row", x.proves(0, 90, 0, 0), 2);
        CHECK.due("no row", x.proves(0, 90, 0, 0), 0);
        CHECK.due("no row", x.proves(0, 92, 0, 1), 0);
        CHECK.due("no row", x.proves(0, 92, 0, 2), -1);
    }

    // ---- what is seen

    static void promise35_fits_ofANumberThatIsFreeAndTakenAgain() {
        ScaleNets x = told();
        seen(x, 0, 3, 0, 90);
        CHECK.due("fits", x.fits(-1), 2);
        x.drop(3);
        CHECK.due("without 3 no row is asked", x.fits(-1), 3);
        CHECK.due("has(4)", x.has(4), 1);
        CHECK.due("add", x.add(0, 45, 45), 3);
        CHECK.due("3 is at another place: by sum alone", x.fits(-1), 1);
        CHECK.due("fits(0)", x.fits(0), 0);
        x.undo();
        CHECK.due("undo of add", x.fits(-1), 3);
        x.undo();
        CHECK.due("undo of drop", x.fits(-1), 2);
        x.move(0, 0, 1, 0);
        CHECK.due("0 moved", x.fits(-1), 0);
        CHECK.due("tells without fits", x.tells(0), -1);
        x.undo();
        CHECK.due("undo of move", x.fits(-1), 2);
    }

    static void promise35_fits_theKthIsAskedWithoutTheirNumber() {
        ScaleNets x = told();
        CHECK.due("fits(2)", x.fits(2), 2);
        seen(x, 0, 3, 0, 90);
        CHECK.due("fits(2) behind see()", x.fits(2), -1);
        x.drop(3);
        CHECK.due("fits(2) behind drop()", x.fits(2), 2);
        x.undo();
        CHECK.due("fits(2) behind undo()", x.fits(2), -1);
        CHECK.due("tells(2) of two fits", x.tells(2), 1);
        x.drop(0);
        CHECK.due("fits(2) behind drop() of the other", x.fits(2), 2);
        Check.tape(x, Kept.TOLD);
        x.set();
        CHECK.due("fits(2) behind set()", x.fits(2), 2);
    }

    static void promise35_fits_isTheSameByAnyMeasure() {
        ScaleNets x = told();
        seen(x, 0, 3, 0, 90);
        x.by(2);
        CHECK.due("fits", x.fits(-1), 2);
        CHECK.due("fits(1)", x.fits(1), 1);
        x.by(1);
        CHECK.due("fits", x.fits(-1), 2);
        x.lay();
        CHECK.due("fits", x.fits(-1), 2);
    }

    static void promise34_see_staysBehindARefusedOneAndAnImageButNotASet() {
        ScaleNets x = told();
        seen(x, 0, 3, 0, 90, 3, 5, 0, 1);
        CHECK.due("fits", x.fits(-1), 2);
        seen(x, 0, 3, 0, 90, 9, 5, 0, 1);
        CHECK.due("has(4) behind a refused see()", x.has(4), 2);
        CHECK.due("fits behind a refused see()", x.fits(-1), 2);
        on(x, Edges.checked(0, 2, 0, 0, 0, 0, 10, 255, 3, 0, 0, 90, 6, 0));
        CHECK.due("has(4) behind on()", x.has(4), 2);
        CHECK.due("fits behind on(): 0 and 3 are so far by two, 5 is none", x.fits(-1), 2);
        Check.tape(x, Kept.TOLD);
        x.set();
        CHECK.due("has(4) behind set()", x.has(4), 0);
        CHECK.due("fits behind set()", x.fits(-1), 3);
        CHECK.due("see() of an empty tape", x.see(), -1);
        CHECK.due("has(4)", x.has(4), 0);
    }

    static void promise34_see_fewerRowsTakeThePlaceOfMore() {
        ScaleNets x = told();
        seen(x, 0, 1, 0, 99, 0, 2, 0, 99, 0, 3, 0, 90);
        CHECK.due("fits", x.fits(-1), 0);
        seen(x, 0, 3, 0, 90);
        CHECK.due("has(4)", x.has(4), 1);
        CHECK.due("fits", x.fits(-1), 2);
        CHECK.due("tells(0): of the first pair by which sum and most are unlike", x.tells(0), 0);
        CHECK.due("tells(1)", x.tells(1), 4);
        CHECK.due("tells(2)", x.tells(2), 1);
        x.drop(4);
        CHECK.due("tells(0) without 4", x.tells(0), 1);
        CHECK.due("tells(1) without 4", x.tells(1), 3);
    }

    // ---- what can be undone

    static void promise43_undo_behindWhatIsRefused() {
        ScaleNets x = told();
        x.add(1, 1, 1);
        Check.tape(x, "set by");
        x.set();
        on(x, 1, 2, 3);
        x.see();
        x.add(1, 1, 1);
        x.drop(20);
        x.move(0, 1, 1, 1);
        x.by(0);
        x.chance(0);
        x.seed(-1);
        CHECK.due("has(5)", x.has(5), 1);
        CHECK.due("undo()", x.undo(), true);
        CHECK.same("undo()", Kept.points(x), TOLD_POINTS);
        CHECK.due("undo() again", x.undo(), false);
        CHECK.same("status", Arrays.toString(Edges.refusals(x)), "[0, 2, 3, 2, 1, 2]");
    }

    static void promise43_undo_whatIsUndoneDoesNotComeBack() {
        ScaleNets x = told();
        x.add(1, 1, 1);
        x.drop(3);
        x.undo();
        x.move(1, 31, 0, 0);
        CHECK.due("has(5)", x.has(5), 2);
        x.undo();
        CHECK.due("3 is there", x.point(3, 1), 90);
        CHECK.due("6 is there", x.point(6, 0), 1);
        x.undo();
        CHECK.same("undo() of add", Kept.points(x), TOLD_POINTS);
        CHECK.due("no more", x.undo(), false);
    }

    static void promise43_undo_bringsLevelsBackThatWereNotLaidSo() {
        int[] image = Edges.checked(0, 2, 0, 0, 0, 0, 10, 255, 1, 0, 0, 9, 0, 0);
        int[] low = Edges.checked(0, 2, 0, 0, 0, 0, 10, 255, 1, 0, 0, 1, 0, 0);
        ScaleNets x = told();
        CHECK.due("9 is too far for LEVEL 0", on(x, image), false);
        CHECK.due("on()", on(x, low), true);
        x.move(1, 0, 0, 9);
        CHECK.due("moved: LEVEL 3", x.point(1, 3), 3);
        x.drop(0);
        CHECK.due("1 is the ROOT", x.point(1, 3), 10);
        CHECK.due("comes as 0", x.add(0, 0, 0), 0);
        x.lay();
        CHECK.same("lay()", Kept.points(x), "by 0, root 0, 0:0,0,0,10,-1 1:0,0,9,3,0");
        x.by(1);
        x.undo();
        x.undo();
        CHECK.same("undo() of by and lay", Kept.points(x), "by 0, root 1, 0:0,0,0,3,1 1:0,0,9,10,-1");
        x.undo();
        x.undo();
        x.undo();
        CHECK.same("undo() of all", Kept.points(x), "by 0, root 0, 0:0,0,0,10,-1 1:0,0,1,0,0");
        CHECK.due("nothing of what was ahead of on()", x.undo(), false);
    }

    static void promise43_undo_aSetAndAnImageLetNothingBeUndoneButLaterActs() {
        ScaleNets x = told();
        x.add(1, 1, 1);
        Check.tape(x, "set by most;");
        x.set();
        CHECK.due("undo() behind set()", x.undo(), false);
        x.add(7, 7, 7);
        on(x, Edges.checked(2, 0));
        CHECK.due("undo() behind on()", x.undo(), false);
        x.add(8, 8, 8);
        CHECK.due("undo() of add", x.undo(), true);
        CHECK.same("undo()", Kept.points(x), "by 2, root -1,");
        CHECK.due("status(4)", x.status(4), 2);
    }

    static void promise43_undo_ofEachKindBehindEachOther() {
        for (int first = 0; first < ACTS.size(); first++) {
            ScaleNets x = told();
            List<String> ahead = new ArrayList<>();
            for (int turn = 0; turn < ACTS.size(); turn++) {
                ahead.add(Edges.points(x));
                ACTS.get((first + turn) % ACTS.size()).accept(x);
                CHECK.due("has(5) behind act " + turn + ", from " + first, x.has(5), turn + 1);
                x = sameBy(first, turn);
            }
            for (int turn = ACTS.size() - 1; turn >= 0; turn--) {
                CHECK.due("undo()", x.undo(), true);
                if (turn % 2 == 0) {
                    CHECK.same("undo() of act " + turn + ", from " + first, Edges.points(x), ahead.get(turn));
                }
            }
            CHECK.due("undo() of no act", x.undo(), false);
        }
    }

    /** Another object by the same acts, so that none is asked too often. */
    private static ScaleNets sameBy(int first, int last) {
        ScaleNets x = told();
        for (int turn = 0; turn <= last; turn++) {
            ACTS.get((first + turn) % ACTS.size()).accept(x);
        }
        return x;
    }

    // ---- the seed

    static void promise44_seed_goesOnBehindUndoSetAndImage() {
        ScaleNets x = told();
        x.seed(77);
        x.chance(1);
        int behind = x.has(6);
        x.undo();
        CHECK.due("undo() of chance", x.has(6), behind);
        on(x, Edges.checked(0, 0));
        CHECK.due("on()", x.has(6), behind);
        Check.tape(x, Kept.TOLD);
        x.set();
        CHECK.due("set()", x.has(6), behind);
        x.chance(1);
        ScaleNets y = told();
        y.seed(77);
        y.chance(2);
        CHECK.due("one chance and one behind it are as two", x.has(6), y.has(6));
        CHECK.due("by the seed 77 one comes, then number 0 goes", y.point(0, 0), -1);
        CHECK.due("by the seed behind the first one, one of the six goes", x.has(0), 5);
    }

    static void promise42_chance_likeSeedsLikePoints() {
        ScaleNets x = told();
        x.seed(5);
        x.chance(40);
        String first = Edges.image(x);
        x.undo();
        x.chance(40);
        CHECK.due("by the seed as it was then, other points", Edges.image(x).equals(first), false);
        x.undo();
        x.seed(5);
        x.chance(40);
        CHECK.same("by the seed 5 again", Edges.image(x), first);
        CHECK.due("three chances, two undone", x.has(5), 1);
    }

    static void promise42_chance_onlyChancesDraw() {
        ScaleNets x = told();
        x.seed(9);
        for (int i = 0; i < 5; i++) {
            ACTS.get(i).accept(x);
            x.undo();
        }
        x.comes(1, 1, 1, 0);
        x.goes(0, 0);
        x.anew(0);
        x.seek(1, 1, 1);
        x.chance(0);
        x.chance(41);
        CHECK.due("has(6)", x.has(6), 9);
    }

    // ---- names

    static void promise07_letter_ofANumberThatIsTakenAgain() {
        ScaleNets x = told();
        x.drop(1);
        CHECK.due("of nobody", x.letter(1, 0), -1);
        CHECK.due("named()", Kept.named(x, "bob"), -1);
        x.add(77, 7, 7);
        CHECK.due("of one without a name", x.letter(1, 0), 0);
        CHECK.due("named()", Kept.named(x, "bob"), -1);
        x.undo();
        x.undo();
        CHECK.due("undo()", x.letter(1, 0), 2);
        CHECK.due("named()", Kept.named(x, "bob"), 1);
    }

    static void promise07_letter_ofNumbersThatAnEarlierSetHad() {
        ScaleNets x = told();
        Check.tape(x, "set by sum;point q at 1 1 1;");
        x.set();
        for (int p = 1; p < 7; p++) {
            CHECK.due("add", x.add(9 * p, 0, 0), p);
            CHECK.due("letter(" + p + ", 0)", x.letter(p, 0), 0);
        }
        CHECK.due("named() of one told ahead", Kept.named(x, "bob"), -1);
        x.seed(77);
        Check.tape(x, "set by sum;");
        x.set();
        x.chance(1);
        CHECK.due("comes as 0", x.has(2), 0);
        CHECK.due("letter(0, 0)", x.letter(0, 0), 0);
    }

    /** What would be is asked of the named points; an image put on behind that has no names all the same. */
    static void promise07_letter_ofAnImageBehindWhatWouldBe() {
        List<Consumer<ScaleNets>> calls = List.of(x -> x.goes(5, 0), x -> x.anew(0), ScaleNets::lay, x -> x.comes(1, 1, 1, 0));
        for (Consumer<ScaleNets> call : calls) {
            ScaleNets x = told();
            call.accept(x);
            CHECK.due("on()", on(x, Edges.checked(0, 2, 1, 0, 0, 0, 10, 255, 4, 0, 0, 9, 3, 1)), true);
            CHECK.due("letter(1, 0)", x.letter(1, 0), 0);
            CHECK.due("letter(4, 0)", x.letter(4, 0), 0);
            CHECK.due("named()", Kept.named(x, "bob"), -1);
            CHECK.due("comes as 0", x.add(1, 1, 1), 0);
            CHECK.due("letter(0, 0)", x.letter(0, 0), 0);
        }
    }

    static void promise08_named_behindEachActThatLeavesAllPoints() {
        List<Consumer<ScaleNets>> acts = List.of(x -> x.move(1, 9, 9, 9), x -> x.move(0, 7, 7, 7), x -> x.by(1), ScaleNets::lay,
                x -> x.add(5, 5, 5));
        ScaleNets x = told();
        for (Consumer<ScaleNets> act : acts) {
            act.accept(x);
            for (int p = 0; p < 6; p++) {
                CHECK.due("named() of " + Kept.NAMES_TOLD[p], Kept.named(x, Kept.NAMES_TOLD[p]), p);
            }
        }
        CHECK.due("has(5)", x.has(5), 5);
    }

    static void promise08_named_anImageHasNoNamesARefusedOneLeavesThem() {
        ScaleNets x = told();
        x.image();
        int[] image = Edges.octets(x);
        on(x, 1, 2, 3);
        CHECK.due("named() behind a refused on()", Kept.named(x, "bob"), 1);
        CHECK.due("on() of its own image", on(x, image), true);
        CHECK.due("named() behind on()", Kept.named(x, "bob"), -1);
        CHECK.due("letter behind on()", x.letter(1, 0), 0);
        CHECK.same("on()", Kept.points(x), TOLD_POINTS);
        Check.tape(x, Kept.TOLD);
        CHECK.due("the names can be told again", x.set(), 7);
        CHECK.due("named() behind set()", Kept.named(x, "bob"), 1);
    }

    static void promise08_named_ofPointsThatWentByChance() {
        ScaleNets x = told();
        x.seed(77);
        x.chance(2);
        CHECK.due("0 went", Kept.named(x, "ann"), -1);
        CHECK.due("comes as 0", x.add(3, 3, 3), 0);
        CHECK.due("without a name", x.letter(0, 0), 0);
        x.undo();
        x.undo();
        CHECK.due("0 is ann again", Kept.named(x, "ann"), 0);
    }

    // ---- numbers that are free again

    static void promise37_add_theNumberThatIsFreeByThen() {
        ScaleNets x = told();
        x.drop(4);
        x.drop(2);
        CHECK.due("the less one", x.add(7, 7, 7), 2);
        x.undo();
        CHECK.due("free again", x.add(8, 8, 8), 2);
        CHECK.due("the other", x.add(9, 9, 9), 4);
        CHECK.due("behind all", x.add(10, 10, 10), 6);
        x.undo();
        x.undo();
        x.undo();
        x.undo();
        CHECK.due("2 is cid again, 4 is free", x.add(11, 11, 11), 4);
        CHECK.due("cid", x.letter(2, 0), 3);
    }

    static void promise37_add_behindActsThatKeepNumbers() {
        ScaleNets x = told();
        x.drop(1);
        x.move(5, 9, 9, 9);
        x.by(1);
        x.lay();
        CHECK.due("5 is 5", x.at(9, 9, 9), 5);
        CHECK.due("1 is nobody", x.point(1, 0), -1);
        CHECK.due("comes() takes no number", x.comes(1, 1, 1, 0) >= 0, true);
        CHECK.due("1 is the one that is free", x.add(1, 1, 1), 1);
    }

    static void promise37_add_behindAnImageAndASet() {
        ScaleNets x = told();
        on(x, Edges.checked(0, 2, 1, 0, 0, 0, 10, 255, 39, 0, 0, 9, 3, 1));
        CHECK.due("behind on()", x.add(5, 5, 5), 0);
        CHECK.due("behind on()", x.add(6, 6, 6), 2);
        Check.tape(x, "set by sum;point q at 1 1 1;");
        x.set();
        CHECK.due("behind set()", x.add(6, 6, 6), 1);
        CHECK.due("39 is nobody", x.point(39, 0), -1);
    }

    static void promise37_add_behindOneOfFortyThatWent() {
        ScaleNets x = Check.of(Edges.fortyPoints());
        CHECK.due("41 are too many", x.add(0, 1, 0), -1);
        x.drop(23);
        CHECK.due("23 is free", x.add(0, 1, 0), 23);
        x.undo();
        CHECK.due("and again", x.add(0, 2, 0), 23);
        x.undo();
        x.undo();
        CHECK.due("undo() of drop: 41 are too many", x.add(0, 1, 0), -1);
        CHECK.due("status(2)", x.status(2), 2);
    }

    // ---- the image

    static void promise46_octet_ofTheOneThatWasWrittenWhateverComesThen() {
        ScaleNets x = told();
        x.image();
        String due = Arrays.toString(Edges.octets(x));
        for (Consumer<ScaleNets> act : ACTS) {
            act.accept(x);
            CHECK.same("an act", Arrays.toString(Edges.octets(x)), due);
        }
        on(x, Edges.checked(1, 0));
        CHECK.same("on()", Arrays.toString(Edges.octets(x)), due);
        Check.tape(x, "set by most;");
        x.set();
        CHECK.same("set()", Arrays.toString(Edges.octets(x)), due);
        CHECK.due("image() of none", x.image(), 3);
        CHECK.due("nothing of the longer one", x.octet(3), -1);
        CHECK.same("image()", Arrays.toString(Edges.octets(x)), "[1, 0, 89]");
    }

    static void promise47_on_bringsBackWhatAnImageTold() {
        ScaleNets x = told();
        x.drop(1);
        x.image();
        int[] image = Edges.octets(x);
        String points = Kept.points(x);
        Check.tape(x, "set by bits;point z at 9 9 9;");
        x.set();
        CHECK.due("on()", on(x, image), true);
        CHECK.same("on()", Kept.points(x), points);
        x.image();
        CHECK.same("image() again", Arrays.toString(Edges.octets(x)), Arrays.toString(image));
    }

    static void promise47_on_actsGoOnFromIt() {
        ScaleNets x = told();
        on(x, Edges.checked(1, 2, 7, 0, 0, 0, 10, 255, 9, 0, 0, 1, 0, 7));
        CHECK.due("drop of the root", x.drop(7), true);
        CHECK.same("drop", Kept.points(x), "by 1, root 9, 9:0,0,1,10,-1");
        CHECK.due("undo()", x.undo(), true);
        CHECK.same("undo()", Kept.points(x), "by 1, root 7, 7:0,0,0,10,-1 9:0,0,1,0,7");
        CHECK.due("seek", x.seek(0, 0, 9), 9);
        CHECK.due("by(0)", x.by(0), true);
        CHECK.due("far by the new measure", x.far(7, 9), 1);
    }

    // ---- what was refused

    static void promise48_status_goesOnBehindSetImageAndUndo() {
        ScaleNets x = new ScaleNets();
        x.add(1, 1, 1);
        x.lay();
        x.undo();
        x.on();
        x.set();
        x.end(1);
        Check.tape(x, Kept.TOLD);
        x.set();
        CHECK.same("set()", Arrays.toString(Edges.refusals(x)), "[1, 1, 1, 1, 1, 1]");
        x.move(0, 0, 0, 0);
        x.by(0);
        x.see();
        on(x, Edges.checked(0, 0));
        CHECK.same("on()", Arrays.toString(Edges.refusals(x)), "[1, 2, 2, 2, 1, 1]");
        x.add(1, 1, 1);
        x.undo();
        CHECK.same("undo()", Arrays.toString(Edges.refusals(x)), "[1, 2, 2, 2, 1, 1]");
        x.lay();
        x.undo();
        x.seed(-5);
        x.end(-5);
        CHECK.same("refused once more", Arrays.toString(Edges.refusals(x)), "[2, 2, 2, 3, 2, 2]");
    }

    // ---- all else is of the points as they are

    private interface Asks {
        int of(ScaleNets x, int n);
    }

    private static final int[] NUMBERS = {0, 1, 2, 3, 4, 5, 6, 9, 13, 20, 30, 39, 40, -1};
    private static final List<Asks> OF_POINTS = List.of((x, n) -> x.has(n), (x, n) -> x.point(n, 4), (x, n) -> x.point(n, 5),
            (x, n) -> x.point(n, 6), (x, n) -> x.at(n, n, n), (x, n) -> x.child(x.has(2), n), (x, n) -> x.far(n, x.has(2)));
    private static final List<Asks> OF_NETS = List.of((x, n) -> x.net(n, -1), (x, n) -> x.net(0, n), (x, n) -> x.above(n, 5),
            (x, n) -> x.loose(n, 0), (x, n) -> x.loose(n, 1), (x, n) -> x.loose(n, 2), (x, n) -> x.most(n));
    private static final List<Asks> OF_SEARCHES = List.of((x, n) -> x.nth(90, 60, 30, n), (x, n) -> x.within(90, 60, 30, 9 * n),
            (x, n) -> x.remote(6 * n, 9, 9, 0), (x, n) -> x.remote(6 * n, 9, 9, 1), (x, n) -> x.remote(6 * n, 9, 9, 2),
            (x, n) -> x.seek(6 * n, 9, 200), (x, n) -> x.proves(6 * n, 9, 200, 9));
    private static final List<Asks> OF_ALL = List.of((x, n) -> x.centers(n, 0), (x, n) -> x.centers(n, 1), (x, n) -> x.centers(n, 2),
            (x, n) -> x.center(n, 3), (x, n) -> x.pair(n), (x, n) -> x.thin(n), (x, n) -> x.link(n, 0), (x, n) -> x.link(n, 1),
            (x, n) -> x.link(n, 2), (x, n) -> x.group(n, 60), (x, n) -> x.groups(6 * n));
    private static final List<Asks> OF_WHAT_WOULD_BE = List.of((x, n) -> x.comes(6 * n, 6, 6, 0), (x, n) -> x.comes(6 * n, 6, 6, 1),
            (x, n) -> x.goes(n, 0), (x, n) -> x.goes(n, 1), (x, n) -> x.goes(n, 2), (x, n) -> x.anew(n), (x, n) -> x.fits(n),
            (x, n) -> x.tells(n));

    private static String asked(ScaleNets x, Asks one) {
        StringBuilder b = new StringBuilder();
        for (int n : NUMBERS) {
            b.append(one.of(x, n)).append(' ');
        }
        return b.toString();
    }

    private static ScaleNets askedAll(ScaleNets x) {
        for (List<Asks> calls : List.of(OF_POINTS, OF_NETS, OF_SEARCHES, OF_ALL, OF_WHAT_WOULD_BE)) {
            for (Asks one : calls) {
                one.of(x, 1);
                one.of(x, 4);
            }
        }
        return x;
    }

    /** Whatever was asked ahead of the acts, each call answers as one that was asked all behind them. */
    private static void askedAheadOfActs(List<Asks> calls) {
        for (int seed = 0; seed < 12; seed++) {
            for (int i = 0; i < calls.size(); i++) {
                ScaleNets x = laterActs(askedAll(behindActs(Edges.empty("sum"), seed)), seed);
                ScaleNets y = askedAll(laterActs(behindActs(Edges.empty("sum"), seed), seed));
                CHECK.same("seed " + seed + ", call " + i, asked(x, calls.get(i)), asked(y, calls.get(i)));
            }
        }
    }

    static void promise09_point_asThePointsAreByNow() {
        askedAheadOfActs(OF_POINTS);
    }

    static void promise15_loose_asThePointsAreByNow() {
        askedAheadOfActs(OF_NETS);
    }

    static void promise17_seek_asThePointsAreByNow() {
        askedAheadOfActs(OF_SEARCHES);
    }

    static void promise24_centers_asThePointsAreByNow() {
        askedAheadOfActs(OF_ALL);
    }

    static void promise32_goes_asThePointsAreByNow() {
        askedAheadOfActs(OF_WHAT_WOULD_BE);
    }

    /** What a seek found is all of its own, whatever the ones ahead of it found. */
    static void promise18_found_nothingOfTheSeekAhead() {
        for (int seed = 0; seed < 12; seed++) {
            for (int n = 0; n < 40; n += 3) {
                ScaleNets x = behindActs(Edges.empty("sum"), seed);
                x.seek(255 - 6 * n, 200, 9);
                laterActs(x, seed);
                x.seek(6 * n, 9, 200);
                ScaleNets y = laterActs(behindActs(Edges.empty("sum"), seed), seed);
                y.seek(6 * n, 9, 200);
                CHECK.same("seed " + seed + ", seek " + n, Kept.searched(x), Kept.searched(y));
            }
        }
    }

    private static ScaleNets ofImage(ScaleNets x) {
        x.image();
        ScaleNets y = Edges.empty("bits");
        CHECK.due("on() of an image", on(y, Edges.octets(x)), true);
        return y;
    }

    private static ScaleNets behindActs(ScaleNets x, int seed) {
        x.seed(seed);
        x.chance(40);
        x.chance(1 + seed);
        x.by(seed % 3);
        x.drop(3);
        x.undo();
        return x;
    }

    private static ScaleNets laterActs(ScaleNets x, int seed) {
        x.drop(x.has(2));
        x.move(5, seed, 2 * seed, 3 * seed);
        x.drop(x.net(0, seed % 4));
        return x;
    }

    /** Behind whatever acts, an object answers as another on which its image was put. */
    static void promise47_on_answersAsTheObjectWhoseImageItIs() {
        for (int seed = 0; seed < 12; seed++) {
            for (List<Asks> calls : List.of(OF_POINTS.subList(1, 7), OF_NETS, OF_SEARCHES, OF_ALL, OF_WHAT_WOULD_BE)) {
                ScaleNets x = laterActs(behindActs(Edges.empty("sum"), seed), seed);
                ScaleNets y = ofImage(x);
                for (int i = 0; i < calls.size(); i++) {
                    CHECK.same("seed " + seed + ", call " + i, asked(y, calls.get(i)), asked(x, calls.get(i)));
                }
            }
        }
    }

    public static void main(String[] args) throws ReflectiveOperationException {
        CHECK.runAll(LaterCallsTest.class);
    }
}
