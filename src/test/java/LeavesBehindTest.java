import java.util.Arrays;
import java.util.List;
import java.util.function.Supplier;
import java.util.function.ToIntFunction;

/**
 * What one call leaves behind for all others: each call is made of an object that keeps some of
 * everything, then all that is kept is asked (Kept). What the call changes is told here; all else stays.
 */
public final class LeavesBehindTest {
    private static final Check CHECK = new Check("LeavesBehindTest");
    private static final int[] EDGES = {-2, -1, 0, 1, 2, 3, 4, 5, 6, 7, 12, 39, 40, 255, 256, 999, 1000,
        Integer.MIN_VALUE, Integer.MAX_VALUE};

    private interface Asks {
        void of(ScaleNets x, int n);
    }

    private static int flag(boolean answer) {
        return answer ? 1 : 0;
    }

    /** The call answers so, changes what is told here, and nothing else. */
    private static void leaves(String call, Supplier<ScaleNets> made, ToIntFunction<ScaleNets> one, int answer, Kept... changed) {
        for (Kept kept : Kept.values()) {
            ScaleNets x = made.get();
            CHECK.due(call, one.applyAsInt(x), answer);
            String got = kept.ask(x);
            String stays = kept.ask(made.get());
            if (List.of(changed).contains(kept)) {
                CHECK.due(call + " changes " + kept + ", " + stays, got.equals(stays), false);
            } else {
                CHECK.same(call + ", of " + kept, got, stays);
            }
        }
    }

    private static void leaves(String call, ToIntFunction<ScaleNets> one, int answer, Kept... changed) {
        leaves(call, Kept::rich, one, answer, changed);
    }

    /** A call that only asks leaves all, whatever it is asked, with a set and without. */
    private static void asks(String call, Asks one) {
        for (int n : EDGES) {
            ToIntFunction<ScaleNets> made = x -> {
                one.of(x, n);
                return 0;
            };
            leaves(call + " with " + n, made, 0);
            leaves(call + " with " + n + ", without a set", () -> Kept.bare(7, 8, 9), made, 0);
        }
    }

    /** What is kept behind the call, word by word. */
    private static void then(String call, Supplier<ScaleNets> made, ToIntFunction<ScaleNets> one, Kept kept, String want) {
        ScaleNets x = made.get();
        one.applyAsInt(x);
        CHECK.same(call + ", of " + kept, kept.ask(x), want);
    }

    private static void then(String call, ToIntFunction<ScaleNets> one, Kept kept, String want) {
        then(call, Kept::rich, one, kept, want);
    }

    private static Supplier<ScaleNets> withTape(String text) {
        return () -> Kept.rich(text.chars().toArray());
    }

    private static Supplier<ScaleNets> withTape(int... bytes) {
        return () -> Kept.rich(bytes);
    }

    /** What the tape is asked when there is nothing on it. */
    private static String emptyTape(String points) {
        return "feed 20, set -1, fault 1 at 1, " + points;
    }

    private static final String RICH_POINTS = "by 0, root 0, 0:0,0,0,10,-1 2:35,0,0,5,0 3:0,90,0,6,0 4:200,200,200,9,0 "
            + "5:0,91,0,0,3 6:100,100,100,8,0";

    // ---- 1 to 3: the tape

    static void promise01_newObject_keepsNothingOfAnother() {
        String[] fresh = {"feed 20, set -1, fault 1 at 1, by -1, root -1,", "0 at -1", "by -1, root -1,",
            "-1 -1 -1 -1 -1 -1", "-1, -1, -1", "[-1, -1, -1, -1] -1 -1 -1 -1", "0 rows, fits -1: -1, -1, -1", "0",
            "1, behind a chance -1", "[]", "[0, 0, 0, 0, 0, 0]"};
        ScaleNets other = Kept.rich();
        for (Kept kept : Kept.values()) {
            CHECK.same("a new object beside another, of " + kept, kept.ask(new ScaleNets()), fresh[kept.ordinal()]);
        }
        leaves("a new object beside it", x -> new ScaleNets().has(0), 0);
        CHECK.same("eleven new objects beside it", Kept.POINTS.ask(other), RICH_POINTS);
    }

    static void promise02_feed_theTapeAlone() {
        ToIntFunction<ScaleNets> taken = x -> x.feed(0x20373b20, 0x20202020, 0x20202020, 0x20202020, 0x20202020);
        leaves("feed", taken, 48, Kept.TAPE);
        then("feed", x -> x.feed(0x20202020, 0x20202020, 0x20202020, 0x20202020, 0x20202020), Kept.TAPE,
                "feed 68, set 2, fault 0 at -1, by 2, root 0, 0:9,9,9,10,-1");
    }

    static void promise02_feed_refusedTheCountAlone() {
        int[] full = new int[1600];
        Arrays.fill(full, ' ');
        leaves("feed of a full tape", withTape(full), x -> x.feed(1, 2, 3, 4, 5), -1, Kept.REFUSED);
        then("feed of a full tape", withTape(full), x -> x.feed(1, 2, 3, 4, 5), Kept.REFUSED, "[2, 2, 3, 4, 5, 6]");
    }

    static void promise03_end_theTapeAlone() {
        leaves("end(27)", x -> flag(x.end(27)), 1, Kept.TAPE);
        leaves("end of all that there are", x -> flag(x.end(28)), 1);
        then("end(27)", x -> flag(x.end(27)), Kept.TAPE, "feed 47, set -1, fault 1 at 29, " + RICH_POINTS);
    }

    static void promise03_end_refusedTheCountAlone() {
        leaves("end(29)", x -> flag(x.end(29)), 0, Kept.REFUSED);
        leaves("end(-1)", x -> flag(x.end(-1)), 0, Kept.REFUSED);
        then("end(29)", x -> flag(x.end(29)), Kept.REFUSED, "[2, 2, 3, 4, 5, 6]");
    }

    // ---- 4 and 5: a set

    static void promise04_set_allButSeedImageAndCounts() {
        Supplier<ScaleNets> made = withTape("set by most;point bob at 1 2 3;");
        leaves("set()", made, ScaleNets::set, 2, Kept.TAPE, Kept.FAULT, Kept.POINTS, Kept.NAMES, Kept.FREE,
                Kept.SEARCHED, Kept.SEEN, Kept.UNDONE);
        then("set()", made, ScaleNets::set, Kept.TAPE, emptyTape("by 1, root 0, 0:1,2,3,10,-1"));
        then("set()", made, ScaleNets::set, Kept.FAULT, "0 at -1");
        then("set()", made, ScaleNets::set, Kept.POINTS, "by 1, root 0, 0:1,2,3,10,-1");
        then("set()", made, ScaleNets::set, Kept.NAMES, "0bb -1 0 -1 -1 -1 -1");
        then("set()", made, ScaleNets::set, Kept.FREE, "1, 2, 3");
        then("set()", made, ScaleNets::set, Kept.SEARCHED, "[-1, -1, -1, -1] -1 -1 -1 -1");
        then("set()", made, ScaleNets::set, Kept.SEEN, "0 rows, fits 3: 0, 1, 2");
        then("set()", made, ScaleNets::set, Kept.UNDONE, "0");
    }

    static void promise04_set_withoutASetAheadOfIt() {
        Supplier<ScaleNets> made = () -> Kept.bare("set by bits;".chars().toArray());
        leaves("set()", made, ScaleNets::set, 1, Kept.TAPE, Kept.FAULT, Kept.POINTS, Kept.FREE, Kept.SEEN, Kept.SEED);
        then("set()", made, ScaleNets::set, Kept.SEED, Kept.SEED.ask(Kept.rich()));
        then("set()", made, ScaleNets::set, Kept.FREE, "0, 1, 2");
    }

    static void promise04_set_withAFaultTheTapeTheFaultTheCount() {
        String[] texts = {"", "set by sum", "set by sum;point q at 300 0 0;", "set by sum;point q at 1 1 1;point q at 2 2 2;",
            "set by sum;point q at 1 1 1;point r at 1 1 1;"};
        String[] faults = {"1 at 0", "1 at 10", "2 at 22", "3 at 34", "4 at 39"};
        for (int i = 0; i < texts.length; i++) {
            Supplier<ScaleNets> made = withTape(texts[i]);
            // The third has the FAULT that rich() has already, at the same place; the first has no tape to go.
            Kept[] changed = i == 0 ? new Kept[] {Kept.FAULT, Kept.REFUSED}
                    : i == 2 ? new Kept[] {Kept.TAPE, Kept.REFUSED} : new Kept[] {Kept.TAPE, Kept.FAULT, Kept.REFUSED};
            leaves("set() of " + texts[i], made, ScaleNets::set, -1, changed);
            then("set() of " + texts[i], made, ScaleNets::set, Kept.FAULT, faults[i]);
            then("set() of " + texts[i], made, ScaleNets::set, Kept.TAPE, emptyTape(RICH_POINTS));
            then("set() of " + texts[i], made, ScaleNets::set, Kept.REFUSED, "[1, 3, 3, 4, 5, 6]");
        }
    }

    static void promise05_fault_leavesAll() {
        asks("fault", (x, n) -> x.fault(n));
    }

    // ---- 6 to 16: what there is

    static void promise06_has_leavesAll() {
        asks("has", (x, n) -> x.has(n));
    }

    static void promise07_letter_leavesAll() {
        asks("letter", (x, n) -> x.letter(n, 0));
        asks("letter of 2", (x, n) -> x.letter(2, n));
    }

    static void promise08_named_theTapeAlone() {
        leaves("named() of cid", withTape("cid"), ScaleNets::named, 2, Kept.TAPE);
        leaves("named() of bob, who went", withTape("bob"), ScaleNets::named, -1, Kept.TAPE);
        leaves("named() of no name", ScaleNets::named, -1, Kept.TAPE);
        leaves("named() of nothing", withTape(), ScaleNets::named, -1);
        then("named()", withTape("cid"), ScaleNets::named, Kept.TAPE, emptyTape(RICH_POINTS));
        then("named() of no name", ScaleNets::named, Kept.TAPE, emptyTape(RICH_POINTS));
        leaves("named() without a set", () -> Kept.bare('c', 'i', 'd'), ScaleNets::named, -1, Kept.TAPE);
    }

    static void promise09_point_leavesAll() {
        asks("point", (x, n) -> x.point(n, 3));
        asks("point 0", (x, n) -> x.point(0, n));
    }

    static void promise10_at_leavesAll() {
        asks("at", (x, n) -> x.at(n, 0, 0));
        asks("at a point's", (x, n) -> x.at(0, 90, n));
    }

    static void promise11_child_leavesAll() {
        asks("child", (x, n) -> x.child(n, 0));
        asks("child of 0", (x, n) -> x.child(0, n));
    }

    static void promise12_far_leavesAll() {
        asks("far", (x, n) -> x.far(n, 3));
        asks("far from 3", (x, n) -> x.far(3, n));
    }

    static void promise13_net_leavesAll() {
        asks("net", (x, n) -> x.net(n, -1));
        asks("net 0", (x, n) -> x.net(0, n));
    }

    static void promise14_above_leavesAll() {
        asks("above", (x, n) -> x.above(n, 6));
        asks("above 5", (x, n) -> x.above(5, n));
    }

    static void promise15_loose_leavesAll() {
        for (int what = 0; what < 4; what++) {
            int asked = what;
            asks("loose " + what, (x, n) -> x.loose(n, asked));
        }
    }

    static void promise16_most_leavesAll() {
        asks("most", (x, n) -> x.most(n));
    }

    // ---- 17 to 23: searched

    static void promise17_seek_whatWasSearchedAlone() {
        leaves("seek", x -> x.seek(199, 0, 0), 2, Kept.SEARCHED);
        then("seek that prunes", x -> x.seek(200, 200, 200), Kept.SEARCHED, "[0, 3, 1, 3] 0 9 600 3");
        then("seek that prunes nothing", x -> x.seek(0, 91, 0), Kept.SEARCHED, "[0, 6, 0, 0] -1 -1 -1 -1");
        // The place of rich(): the points are others by now, and so is what is looked at.
        then("seek as the one ahead of it", x -> x.seek(0, 90, 0), Kept.SEARCHED, "[0, 6, 0, 0] -1 -1 -1 -1");
    }

    static void promise17_seek_thatFindsNoneLeavesAll() {
        asks("seek of no such place", (x, n) -> x.seek(n < 0 || n > 255 ? n : 256, 1, 1));
        asks("seek of no such place", (x, n) -> x.seek(1, 1, n < 0 || n > 255 ? n : -1));
        leaves("seek without points", LeavesBehindTest::emptied, x -> x.seek(1, 1, 1), -1);
        leaves("seek without a set", () -> Kept.bare(), x -> x.seek(1, 1, 1), -1);
    }

    /** An object that keeps some of everything, but whose points went. */
    private static ScaleNets emptied() {
        ScaleNets x = Kept.rich();
        for (int p = 0; p < 7; p++) {
            if (p != 1) {
                x.drop(p);
            }
        }
        return x;
    }

    static void promise18_found_leavesAll() {
        asks("found", (x, n) -> x.found(n));
    }

    static void promise19_pruned_leavesAll() {
        asks("pruned", (x, n) -> x.pruned(n, 0));
        asks("pruned 0", (x, n) -> x.pruned(0, n));
    }

    static void promise20_proves_theTapeAlone() {
        leaves("a proof", withTape(0, 9), x -> x.proves(200, 200, 200, 0), 3, Kept.TAPE);
        leaves("no proof", withTape(0, 9), x -> x.proves(200, 200, 200, 1), -1, Kept.TAPE);
        leaves("a text", x -> x.proves(200, 200, 200, 0), -1, Kept.TAPE);
        leaves("a proof without rows", withTape(), x -> x.proves(9, 90, 0, 9), 0);
        leaves("no such place", withTape(0, 9), x -> x.proves(200, 256, 200, 0), -1, Kept.TAPE);
        leaves("no such d", withTape(0, 9), x -> x.proves(200, 200, 200, 1000), -1, Kept.TAPE);
        then("a proof", withTape(0, 9), x -> x.proves(200, 200, 200, 0), Kept.TAPE, emptyTape(RICH_POINTS));
        then("no such place", withTape(0, 9), x -> x.proves(200, 256, 200, 0), Kept.TAPE, emptyTape(RICH_POINTS));
        leaves("proves without a set", () -> Kept.bare(0, 6), x -> x.proves(0, 0, 0, 0), -1, Kept.TAPE);
    }

    static void promise21_nth_leavesAll() {
        asks("nth", (x, n) -> x.nth(0, 91, 0, n));
        asks("nth of a place", (x, n) -> x.nth(n, 91, 0, 0));
    }

    static void promise22_within_leavesAll() {
        asks("within", (x, n) -> x.within(0, 91, 0, n));
        asks("within of a place", (x, n) -> x.within(n, 91, 0, 50));
    }

    static void promise23_remote_leavesAll() {
        asks("remote", (x, n) -> x.remote(0, 91, 0, n));
        asks("remote of a place", (x, n) -> x.remote(n, 91, 0, 0));
    }

    // ---- 24 to 30: all together

    static void promise24_centers_leavesAll() {
        asks("centers", (x, n) -> x.centers(n, 0));
        asks("centers by 3", (x, n) -> x.centers(3, n));
    }

    static void promise25_center_leavesAll() {
        asks("center", (x, n) -> x.center(n, 3));
        asks("center of 5", (x, n) -> x.center(5, n));
    }

    static void promise26_pair_leavesAll() {
        asks("pair", (x, n) -> x.pair(n));
    }

    static void promise27_thin_leavesAll() {
        asks("thin", (x, n) -> x.thin(n));
    }

    static void promise28_link_leavesAll() {
        asks("link", (x, n) -> x.link(n, 2));
        asks("link 0", (x, n) -> x.link(0, n));
    }

    static void promise29_group_leavesAll() {
        asks("group", (x, n) -> x.group(n, 100));
        asks("group of 5", (x, n) -> x.group(5, n));
    }

    static void promise30_groups_leavesAll() {
        asks("groups", (x, n) -> x.groups(n));
    }

    // ---- 31 to 36: what would be, what was seen

    static void promise31_comes_leavesAll() {
        asks("comes", (x, n) -> x.comes(n, 1, 1, 0));
        asks("comes, asked", (x, n) -> x.comes(1, 1, 1, n));
    }

    static void promise32_goes_leavesAll() {
        for (int what = 0; what < 4; what++) {
            int asked = what;
            asks("goes " + what, (x, n) -> x.goes(n, asked));
        }
        asks("goes of 0", (x, n) -> x.goes(0, n));
    }

    static void promise33_anew_leavesAll() {
        asks("anew", (x, n) -> x.anew(n));
    }

    static void promise34_see_theTapeAndWhatIsSeen() {
        leaves("see()", withTape(0, 4, 2, 88), ScaleNets::see, 1, Kept.TAPE, Kept.SEEN);
        then("see()", withTape(0, 4, 2, 88), ScaleNets::see, Kept.SEEN, "1 rows, fits 1: 0, -1, -1");
        then("see()", withTape(0, 4, 2, 88), ScaleNets::see, Kept.TAPE, emptyTape(RICH_POINTS));
    }

    static void promise34_see_refusedTheTapeAndTheCount() {
        int[][] tapes = {{0, 4, 2}, {0, 1, 0, 1}, {0, 4, 2, 88, 3, 3, 0, 0}, new int[52]};
        for (int[] tape : tapes) {
            leaves("see() of " + Arrays.toString(tape), withTape(tape), ScaleNets::see, -1, Kept.TAPE, Kept.REFUSED);
            then("see() of " + Arrays.toString(tape), withTape(tape), ScaleNets::see, Kept.TAPE, emptyTape(RICH_POINTS));
        }
        leaves("see() of nothing", withTape(), ScaleNets::see, -1, Kept.REFUSED);
        then("see() of nothing", withTape(), ScaleNets::see, Kept.REFUSED, "[1, 3, 3, 4, 5, 6]");
    }

    static void promise35_fits_leavesAll() {
        asks("fits", (x, n) -> x.fits(n));
    }

    static void promise36_tells_leavesAll() {
        asks("tells", (x, n) -> x.tells(n));
    }

    // ---- 37 to 44: acts

    /** The ACT can be undone, behind those ahead of it. */
    private static void canBeUndone(String call, ToIntFunction<ScaleNets> act) {
        String ahead = Kept.UNDONE.ask(Kept.rich());
        then(call, act, Kept.UNDONE, "4 | " + RICH_POINTS + " first letters 1.-1.3.4.5.6.0.-1." + ahead.substring(1));
    }

    static void promise37_add_pointsNumbersAndWhatCanBeUndone() {
        ToIntFunction<ScaleNets> act = x -> x.add(7, 7, 7);
        // The row of number 1, 9 from eve, is asked again, as one of that number is there.
        leaves("add", act, 1, Kept.POINTS, Kept.FREE, Kept.UNDONE, Kept.SEEN);
        then("add", act, Kept.FREE, "7, 8, 9");
        then("add", act, Kept.SEEN, "2 rows, fits 0: -1, -1, -1");
        canBeUndone("add", act);
    }

    static void promise37_add_refusedTheCountAlone() {
        leaves("add where one is", x -> x.add(35, 0, 0), -1, Kept.REFUSED);
        leaves("add at no place", x -> x.add(0, 0, 256), -1, Kept.REFUSED);
        then("add", x -> x.add(0, 0, 256), Kept.REFUSED, "[1, 2, 4, 4, 5, 6]");
        leaves("add without a set", () -> Kept.bare(1, 2), x -> x.add(1, 1, 1), -1, Kept.REFUSED);
    }

    static void promise38_drop_pointsNamesNumbersAndWhatCanBeUndone() {
        ToIntFunction<ScaleNets> act = x -> flag(x.drop(5));
        leaves("drop", act, 1, Kept.POINTS, Kept.NAMES, Kept.FREE, Kept.UNDONE);
        then("drop", act, Kept.NAMES, "0an 2cd 3dt 4ee 0 -1 2 3 4 -1");
        then("drop", act, Kept.FREE, "1, 5, 7");
        canBeUndone("drop", act);
        leaves("drop of one without a name", x -> flag(x.drop(6)), 1, Kept.POINTS, Kept.FREE, Kept.UNDONE);
        then("drop of one that was seen", x -> flag(x.drop(3)), Kept.SEEN, "2 rows, fits 3: 0, 1, 2");
    }

    static void promise38_drop_refusedTheCountAlone() {
        leaves("drop of one that went", x -> flag(x.drop(1)), 0, Kept.REFUSED);
        leaves("drop(-1)", x -> flag(x.drop(-1)), 0, Kept.REFUSED);
        then("drop(-1)", x -> flag(x.drop(-1)), Kept.REFUSED, "[1, 2, 4, 4, 5, 6]");
        leaves("drop without a set", () -> Kept.bare(1, 2), x -> flag(x.drop(0)), 0, Kept.REFUSED);
    }

    static void promise39_move_pointsAndWhatCanBeUndone() {
        ToIntFunction<ScaleNets> act = x -> flag(x.move(5, 1, 91, 0));
        leaves("move", act, 1, Kept.POINTS, Kept.UNDONE);
        canBeUndone("move", act);
        canBeUndone("move of the root", x -> flag(x.move(0, 1, 0, 0)));
        // Ann is 91 from dot then by sum, and by most 90 still, as was seen.
        leaves("move of the root", x -> flag(x.move(0, 1, 0, 0)), 1, Kept.POINTS, Kept.UNDONE, Kept.SEEN);
        then("move of the root", x -> flag(x.move(0, 1, 0, 0)), Kept.SEEN, "2 rows, fits 1: 1, -1, -1");
        leaves("a refused move, then another", x -> flag(x.move(0, 0, 0, 0) || x.move(6, 101, 0, 0)), 1,
                Kept.POINTS, Kept.UNDONE, Kept.REFUSED);
    }

    static void promise39_move_refusedTheCountAlone() {
        leaves("move to its own place", x -> flag(x.move(2, 35, 0, 0)), 0, Kept.REFUSED);
        leaves("move where one is", x -> flag(x.move(2, 0, 0, 0)), 0, Kept.REFUSED);
        leaves("move of one that went", x -> flag(x.move(1, 7, 7, 7)), 0, Kept.REFUSED);
        leaves("move to no place", x -> flag(x.move(2, 0, -1, 0)), 0, Kept.REFUSED);
        then("move", x -> flag(x.move(2, 0, -1, 0)), Kept.REFUSED, "[1, 2, 4, 4, 5, 6]");
    }

    static void promise40_by_pointsAndWhatCanBeUndone() {
        ToIntFunction<ScaleNets> act = x -> flag(x.by(2));
        leaves("by", act, 1, Kept.POINTS, Kept.UNDONE);
        canBeUndone("by", act);
    }

    static void promise40_by_refusedTheCountAlone() {
        leaves("by that it is", x -> flag(x.by(0)), 0, Kept.REFUSED);
        leaves("by(3)", x -> flag(x.by(3)), 0, Kept.REFUSED);
        then("by(3)", x -> flag(x.by(3)), Kept.REFUSED, "[1, 2, 3, 5, 5, 6]");
        leaves("by without a set", () -> Kept.bare(1, 2), x -> flag(x.by(1)), 0, Kept.REFUSED);
    }

    static void promise41_lay_pointsAndWhatCanBeUndone() {
        // Laid anew all stand as they stood, so only what can be undone is another.
        leaves("lay, where none has another level", ScaleNets::lay, 0, Kept.UNDONE);
        canBeUndone("lay", ScaleNets::lay);
        leaves("lay behind one that came late", LeavesBehindTest::cameLate, ScaleNets::lay, 2, Kept.POINTS, Kept.UNDONE);
    }

    /** Number 1 came behind number 2, below it; laid anew, it comes ahead, and 2 is below it. */
    private static ScaleNets cameLate() {
        ScaleNets x = Kept.rich();
        x.add(36, 0, 0);
        return x;
    }

    static void promise41_lay_refusedTheCountAlone() {
        leaves("lay without points", LeavesBehindTest::emptied, ScaleNets::lay, -1, Kept.REFUSED);
        then("lay without points", LeavesBehindTest::emptied, ScaleNets::lay, Kept.REFUSED, "[1, 2, 3, 5, 5, 6]");
        leaves("lay without a set", () -> Kept.bare(1, 2), ScaleNets::lay, -1, Kept.REFUSED);
    }

    static void promise42_chance_pointsNumbersSeedAndWhatCanBeUndone() {
        // By the seed 77 one comes, as number 1, at 32 169 81; then the first, number 0, goes.
        leaves("chance(1)", x -> x.chance(1), 7, Kept.POINTS, Kept.FREE, Kept.UNDONE, Kept.SEED, Kept.SEEN);
        then("chance(1)", x -> x.chance(1), Kept.FREE, "7, 8, 9");
        canBeUndone("chance(1)", x -> x.chance(1));
        leaves("chance(2)", x -> x.chance(2), 6, Kept.POINTS, Kept.NAMES, Kept.FREE, Kept.UNDONE, Kept.SEED, Kept.SEEN);
        then("chance(2)", x -> x.chance(2), Kept.NAMES, "2cd 3dt 4ee 5fy -1 -1 2 3 4 5");
        then("chance(2)", x -> x.chance(2), Kept.FREE, "0, 7, 8");
        canBeUndone("chance(2)", x -> x.chance(2));
    }

    static void promise42_chance_refusedTheCountAlone() {
        leaves("chance(0)", x -> x.chance(0), -1, Kept.REFUSED);
        leaves("chance(41)", x -> x.chance(41), -1, Kept.REFUSED);
        then("chance(41)", x -> x.chance(41), Kept.REFUSED, "[1, 2, 3, 5, 5, 6]");
        leaves("chance without a set", () -> Kept.bare(1, 2), x -> x.chance(1), -1, Kept.REFUSED);
    }

    static void promise43_undo_pointsNamesNumbersAndWhatCanBeUndone() {
        String ahead = Kept.UNDONE.ask(Kept.rich());
        leaves("undo of a move", x -> flag(x.undo()), 1, Kept.POINTS, Kept.UNDONE);
        then("undo of a move", x -> flag(x.undo()), Kept.UNDONE, "2" + ahead.substring(ahead.indexOf(" |", 3)));
        leaves("undo of a drop", LeavesBehindTest::undoneOnce, x -> flag(x.undo()), 1, Kept.POINTS, Kept.NAMES, Kept.FREE,
                Kept.UNDONE, Kept.SEEN);
        then("undo of a drop", LeavesBehindTest::undoneOnce, x -> flag(x.undo()), Kept.NAMES, "0an 1bb 2cd 3dt 4ee 5fy 0 1 2 3 4 5");
        then("undo of a drop", LeavesBehindTest::undoneOnce, x -> flag(x.undo()), Kept.FREE, "7, 8, 9");
        // The row of bob, 9 from eve, is kept; it fits no measure, now that he is there again.
        then("undo of a drop", LeavesBehindTest::undoneOnce, x -> flag(x.undo()), Kept.SEEN, "2 rows, fits 0: -1, -1, -1");
    }

    private static ScaleNets undoneOnce() {
        ScaleNets x = Kept.rich();
        x.undo();
        return x;
    }

    static void promise43_undo_refusedTheCountAlone() {
        Supplier<ScaleNets> spent = () -> {
            ScaleNets x = undoneOnce();
            x.undo();
            x.undo();
            return x;
        };
        leaves("undo of nothing", spent, x -> flag(x.undo()), 0, Kept.REFUSED);
        leaves("undo without a set", () -> Kept.bare(1, 2), x -> flag(x.undo()), 0, Kept.REFUSED);
        then("undo without a set", () -> Kept.bare(1, 2), x -> flag(x.undo()), Kept.REFUSED, "[1, 2, 3, 4, 6, 6]");
    }

    static void promise44_seed_theSeedAlone() {
        leaves("seed(5)", x -> flag(x.seed(5)), 1, Kept.SEED);
        leaves("seed(0)", x -> flag(x.seed(0)), 1, Kept.SEED);
        leaves("seed(77)", x -> flag(x.seed(77)), 1);
        CHECK.due("seed(5), then has(6)", seeded(5).has(6), 5);
    }

    private static ScaleNets seeded(int seed) {
        ScaleNets x = Kept.rich();
        x.seed(seed);
        return x;
    }

    static void promise44_seed_refusedTheCountAlone() {
        leaves("seed(-1)", x -> flag(x.seed(-1)), 0, Kept.REFUSED);
        leaves("the least seed", x -> flag(x.seed(Integer.MIN_VALUE)), 0, Kept.REFUSED);
        then("seed(-1)", x -> flag(x.seed(-1)), Kept.REFUSED, "[1, 2, 3, 4, 5, 7]");
    }

    // ---- 45 to 48: images, refusals

    static void promise45_image_whatWasWrittenAlone() {
        leaves("image()", ScaleNets::image, 39, Kept.IMAGE);
        int[] due = Edges.checked(0, 6, 0, 0, 0, 0, 10, 255, 2, 35, 0, 0, 5, 0, 3, 0, 90, 0, 6, 0, 4, 200, 200, 200, 9, 0,
                5, 0, 91, 0, 0, 3, 6, 100, 100, 100, 8, 0);
        then("image()", ScaleNets::image, Kept.IMAGE, Arrays.toString(due));
        then("image() of fewer", LeavesBehindTest::emptied, ScaleNets::image, Kept.IMAGE, Arrays.toString(Edges.checked(0, 0)));
        leaves("image() without a set", () -> Kept.bare(1, 2), ScaleNets::image, -1);
    }

    static void promise46_octet_leavesAll() {
        asks("octet", (x, n) -> x.octet(n));
    }

    static void promise47_on_allButSearchedSeenSeedImageAndCounts() {
        Supplier<ScaleNets> made = withTape(Edges.checked(1, 2, 0, 0, 0, 0, 10, 255, 3, 0, 90, 0, 6, 0));
        ToIntFunction<ScaleNets> on = x -> flag(x.on());
        leaves("on()", made, on, 1, Kept.TAPE, Kept.POINTS, Kept.NAMES, Kept.FREE, Kept.UNDONE);
        then("on()", made, on, Kept.TAPE, emptyTape("by 1, root 0, 0:0,0,0,10,-1 3:0,90,0,6,0"));
        then("on()", made, on, Kept.POINTS, "by 1, root 0, 0:0,0,0,10,-1 3:0,90,0,6,0");
        then("on()", made, on, Kept.NAMES, "-1 -1 -1 -1 -1 -1");
        then("on()", made, on, Kept.FREE, "1, 2, 4");
        then("on()", made, on, Kept.UNDONE, "0");
    }

    static void promise47_on_refusedTheTapeAndTheCount() {
        int[][] tapes = {{1}, {0, 0, 1}, Edges.checked(3, 0), Edges.checked(1, 2, 0, 0, 0, 0, 10, 255, 3, 0, 90, 0, 6, 2),
            Edges.checked(1, 2, 0, 0, 0, 0, 10, 255, 0, 0, 90, 0, 6, 0), Edges.checked(1, 1, 0, 0, 0, 0, 9, 255)};
        ToIntFunction<ScaleNets> on = x -> flag(x.on());
        for (int[] tape : tapes) {
            leaves("on() of " + Arrays.toString(tape), withTape(tape), on, 0, Kept.TAPE, Kept.REFUSED);
            then("on() of " + Arrays.toString(tape), withTape(tape), on, Kept.TAPE, emptyTape(RICH_POINTS));
            then("on() of " + Arrays.toString(tape), withTape(tape), on, Kept.REFUSED, "[1, 2, 3, 4, 5, 7]");
        }
        leaves("on() of nothing", withTape(), on, 0, Kept.REFUSED);
        leaves("on() without a set", () -> Kept.bare(Edges.checked(1, 0)), on, 0, Kept.TAPE, Kept.REFUSED);
    }

    static void promise48_status_leavesAll() {
        asks("status", (x, n) -> x.status(n));
    }

    public static void main(String[] args) throws ReflectiveOperationException {
        CHECK.runAll(LeavesBehindTest.class);
    }
}
