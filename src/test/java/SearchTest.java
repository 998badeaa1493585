/** Promises 17 to 23: seek, found, pruned, proves, nth, within, remote. */
public final class SearchTest {
    private static final Check CHECK = new Check("SearchTest");

    private static void found(ScaleNets x, int far, int looked, int pruned, int spared) {
        CHECK.due("found(0)", x.found(0), far);
        CHECK.due("found(1)", x.found(1), looked);
        CHECK.due("found(2)", x.found(2), pruned);
        CHECK.due("found(3)", x.found(3), spared);
        CHECK.due("found(4)", x.found(4), -1);
        CHECK.due("found(-1)", x.found(-1), -1);
    }

    private static void pruned(ScaleNets x, int k, int point, int at, int far, int spared) {
        CHECK.due("pruned(k, 0)", x.pruned(k, 0), point);
        CHECK.due("pruned(k, 1)", x.pruned(k, 1), at);
        CHECK.due("pruned(k, 2)", x.pruned(k, 2), far);
        CHECK.due("pruned(k, 3)", x.pruned(k, 3), spared);
        CHECK.due("pruned(k, 4)", x.pruned(k, 4), -1);
        CHECK.due("pruned(k, -1)", x.pruned(k, -1), -1);
    }

    private static void seeks() {
        ScaleNets x = Check.of(Check.FOUR);
        CHECK.due("found(0) ahead of any", x.found(0), -1);
        CHECK.due("found(2) ahead of any", x.found(2), -1);
        CHECK.due("seek(5, 0, 0)", x.seek(5, 0, 0), 2);
        found(x, 1, 4, 0, 0);
        CHECK.due("pruned(0, 0)", x.pruned(0, 0), -1);
        CHECK.due("seek(0, 9, 0)", x.seek(0, 9, 0), 3);
        found(x, 0, 2, 1, 2);
        pruned(x, 0, 0, 3, 9, 2);
        CHECK.due("pruned(1, 0)", x.pruned(1, 0), -1);
        CHECK.due("pruned(-1, 0)", x.pruned(-1, 0), -1);
        CHECK.due("seek at no place", x.seek(0, 256, 0), -1);
        CHECK.due("seek at no place", x.seek(-1, 0, 0), -1);
        CHECK.due("seek at no place", x.seek(0, 0, 999), -1);
        found(x, 0, 2, 1, 2);
        // As it was then: points that come and go later change nothing of it.
        x.drop(1);
        x.drop(0);
        x.by(2);
        found(x, 0, 2, 1, 2);
        pruned(x, 0, 0, 3, 9, 2);
        x.undo();
        found(x, 0, 2, 1, 2);
        ScaleNets empty = Check.of("set by sum;");
        CHECK.due("seek without points", empty.seek(1, 1, 1), -1);
        CHECK.due("found behind it", empty.found(1), -1);
        empty.add(7, 7, 7);
        CHECK.due("seek of one point", empty.seek(1, 1, 1), 0);
        found(empty, 18, 1, 0, 0);
        empty.drop(0);
        CHECK.due("seek without points", empty.seek(1, 1, 1), -1);
        found(empty, 18, 1, 0, 0);
    }

    private static void likeOnes() {
        ScaleNets x = Check.of("set by most;point c at 10 0 0;point a at 0 0 0;point b at 20 0 0;");
        CHECK.due("between 0 and 1", x.seek(5, 0, 0), 0);
        CHECK.due("between 0 and 2", x.seek(15, 0, 0), 0);
        CHECK.due("a", x.seek(0, 0, 0), 1);
        CHECK.due("as far from a and b", x.seek(10, 255, 0), 0);
        ScaleNets late = Check.of("set by most;point x at 100 100 100;point a at 0 0 0;");
        late.drop(0);
        late.add(20, 0, 0);
        // The root is 1; 0 is looked at later, and is as near, or farther.
        CHECK.due("like ones, the less number later", late.seek(10, 0, 0), 0);
        CHECK.due("the root is nearer", late.seek(0, 5, 0), 1);
        CHECK.due("the root is farther", late.remote(20, 5, 0, 0), 1);
        CHECK.due("like ones, the less number later", late.remote(10, 0, 0, 0), 0);
        x.drop(0);
        // a is the root now; b is as near as a.
        CHECK.due("as far from a and b", x.seek(10, 255, 0), 1);
        CHECK.due("looked at both", x.found(1), 2);
    }

    /** Two far crowds: at the one, the other's point is pruned with those below it. */
    private static void crowds() {
        ScaleNets x = Check.of("set by sum;point a at 0 0 0;point b at 200 0 0;point c at 210 0 0;point d at 211 0 0;"
                + "point e at 9 0 0;point f at 10 0 0;");
        int[] level = {10, 7, 3, 0, 3, 0};
        int[] parent = {-1, 0, 1, 2, 0, 4};
        for (int p = 0; p < 6; p++) {
            CHECK.due("level of " + p, x.point(p, 3), level[p]);
            CHECK.due("parent of " + p, x.point(p, 4), parent[p]);
        }
        CHECK.due("seek at e's", x.seek(9, 1, 0), 4);
        // b (far 192) is pruned at 7, ahead of c: BEST is a at 10 then, 192 - 128 is not below it.
        // a (10) and e (1): at 3 it is 10 - 8 = 2, not below 1: a has no children below 2, e goes on.
        found(x, 1, 4, 1, 2);
        pruned(x, 0, 1, 7, 192, 2);
        CHECK.due("seek at d's", x.seek(212, 0, 0), 3);
        // a (212): BEST is b at 12 from 8 on; at 7 it is 212 - 128 = 84, not below 12: spared are e and f.
        found(x, 1, 4, 1, 2);
        pruned(x, 0, 0, 7, 212, 2);
    }

    /** FAR less 2 to the k just FAR of BEST: it is pruned; and such a row is of a proof. */
    private static void justAsFar() {
        ScaleNets x = Check.of("set by most;point a at 0 0 0;point b at 3 0 0;point c at 4 0 0;point d at 9 0 0;");
        CHECK.due("seek", x.seek(9, 1, 0), 3);
        found(x, 1, 2, 1, 2);
        pruned(x, 0, 0, 3, 9, 2);
        Check.tape(x, 0, 3);
        CHECK.due("its proof", x.proves(9, 1, 0, 1), 2);
        Check.tape(x, 0, 3);
        CHECK.due("its proof, not of more", x.proves(9, 1, 0, 2), -1);
        ScaleNets y = Check.of("set by most;point a at 0 0 0;point b at 3 0 0;point d at 8 0 0;");
        // a at 0 and 8 together are not above d's 8, so b is not looked at.
        CHECK.due("remote", y.remote(0, 0, 0, 0), 2);
        CHECK.due("remote looked at", y.remote(0, 0, 0, 2), 2);
    }

    private static int proves(ScaleNets x, int d, int... rows) {
        Check.tape(x, rows);
        return x.proves(0, 10, 0, d);
    }

    private static void proofs() {
        ScaleNets x = Check.of(Check.FOUR);
        CHECK.due("no rows, 1", proves(x, 1), 0);
        CHECK.due("no rows, 0", proves(x, 0), 0);
        CHECK.due("no rows, 2", proves(x, 2), -1);
        CHECK.due("a at 3", proves(x, 1, 0, 3), 2);
        CHECK.due("a at 3, 2: d is nearer", proves(x, 2, 0, 3), -1);
        CHECK.due("a at 4: 10 less 16", proves(x, 0, 0, 4), -1);
        CHECK.due("a at 2 spares none", proves(x, 1, 0, 2), 0);
        CHECK.due("b at 2", proves(x, 1, 1, 2), 1);
        CHECK.due("b at 1: c's level is not below 0", proves(x, 1, 1, 1), 0);
        CHECK.due("two rows", proves(x, 1, 0, 3, 1, 2), 2);
        CHECK.due("like rows", proves(x, 1, 0, 3, 0, 3), 2);
        CHECK.due("d at 1: 1 less 2", proves(x, 0, 3, 1), -1);
        CHECK.due("no such k", proves(x, 0, 0, 0), -1);
        CHECK.due("no such k", proves(x, 0, 0, 11), -1);
        CHECK.due("no such k", proves(x, 0, 0, 255), -1);
        CHECK.due("no such point", proves(x, 0, 4, 1), -1);
        CHECK.due("no such point", proves(x, 0, 40, 1), -1);
        CHECK.due("no such point", proves(x, 0, 255, 1), -1);
        CHECK.due("half a row", proves(x, 0, 0, 3, 1), -1);
        CHECK.due("d below 0", proves(x, -1), -1);
        CHECK.due("d over 999", proves(x, 1000), -1);
        int[] forty = new int[80];
        int[] more = new int[82];
        for (int i = 0; i < 82; i++) {
            more[i] = i % 2 == 0 ? 1 : 2;
            if (i < 80) {
                forty[i] = more[i];
            }
        }
        CHECK.due("40 rows", proves(x, 1, forty), 1);
        CHECK.due("41 rows", proves(x, 1, more), -1);
        CHECK.due("the tape went", x.feed(0, 0, 0, 0, 0), 20);
        Check.tape(x, 0, 3);
        CHECK.due("no place", x.proves(0, 256, 0, 0), -1);
        CHECK.due("the tape went", x.feed(0, 0, 0, 0, 0), 20);
        x.end(0);
        CHECK.due("a far place", x.proves(255, 255, 255, 752), 0);
        CHECK.due("a far place", x.proves(255, 255, 255, 757), -1);
        ScaleNets empty = new ScaleNets();
        CHECK.due("without points", empty.proves(0, 0, 0, 999), 0);
        CHECK.due("without points, no place", empty.proves(0, 0, -1, 999), -1);
        Check.tape(empty, 0, 1);
        CHECK.due("without points, a row", empty.proves(0, 0, 0, 0), -1);
        CHECK.due("no proof is not refused", x.status(1), 0);
    }

    private static void nths() {
        ScaleNets x = Check.of(Check.FOUR);
        int[] order = {1, 0, 2, 3};
        for (int k = 0; k < 4; k++) {
            CHECK.due("nth of (2, 0, 0), " + k, x.nth(2, 0, 0, k), order[k]);
        }
        CHECK.due("nth 4", x.nth(2, 0, 0, 4), -1);
        CHECK.due("nth -1", x.nth(2, 0, 0, -1), -1);
        CHECK.due("nth of no place", x.nth(2, -1, 0, 0), -1);
        CHECK.due("nth of no place", x.nth(256, 0, 0, 0), -1);
        int[] inside = {0, 1, 3, 3, 3, 3, 3, 3, 3, 3, 3, 4};
        for (int d = 0; d < 12; d++) {
            CHECK.due("within " + d + " of (2, 0, 0)", x.within(2, 0, 0, d), inside[d]);
        }
        CHECK.due("within 999", x.within(2, 0, 0, 999), 4);
        CHECK.due("within 1000", x.within(2, 0, 0, 1000), -1);
        CHECK.due("within -1", x.within(2, 0, 0, -1), -1);
        CHECK.due("within at no place", x.within(2, 0, 256, 9), -1);
        CHECK.due("within at no place, no points", new ScaleNets().within(2, 0, 256, 9), -1);
        CHECK.due("within without points", new ScaleNets().within(2, 0, 25, 9), 0);
    }

    private static void remotes() {
        ScaleNets x = Check.of(Check.FOUR);
        CHECK.due("remote(0, 0, 0, 0)", x.remote(0, 0, 0, 0), 3);
        CHECK.due("remote(0, 0, 0, 1)", x.remote(0, 0, 0, 1), 9);
        CHECK.due("remote(0, 0, 0, 2)", x.remote(0, 0, 0, 2), 2);
        CHECK.due("remote(0, 9, 0, 0)", x.remote(0, 9, 0, 0), 2);
        CHECK.due("remote(0, 9, 0, 1)", x.remote(0, 9, 0, 1), 13);
        CHECK.due("remote(0, 9, 0, 2)", x.remote(0, 9, 0, 2), 4);
        CHECK.due("remote(0, 0, 0, 3)", x.remote(0, 0, 0, 3), -1);
        CHECK.due("remote(0, 0, 0, -1)", x.remote(0, 0, 0, -1), -1);
        CHECK.due("remote at no place", x.remote(0, 300, 0, 0), -1);
        CHECK.due("a long search is not the latest seek", x.found(0), -1);
        CHECK.due("remote without points", new ScaleNets().remote(0, 0, 0, 0), -1);
        ScaleNets like = Check.of("set by most;point a at 10 0 0;point b at 20 0 0;point c at 0 0 0;");
        CHECK.due("like ones", like.remote(10, 0, 0, 0), 1);
        CHECK.due("like ones", like.remote(10, 0, 0, 1), 10);
    }

    public static void main(String[] args) {
        seeks();
        likeOnes();
        crowds();
        justAsFar();
        proofs();
        nths();
        remotes();
        CHECK.finish();
    }
}
