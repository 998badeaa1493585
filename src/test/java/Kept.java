import java.util.Arrays;

/**
 * What an object keeps from one call to the next, and how each is asked by other calls. To ask may
 * change the object, so each is asked of an object of its own, made by the same calls.
 */
enum Kept {
    TAPE, FAULT, POINTS, NAMES, FREE, SEARCHED, SEEN, UNDONE, SEED, IMAGE, REFUSED;

    /** On the tape of rich(): a text that ask() goes on with. */
    static final String PART = "set by bits;point yon at 9 9";
    static final String[] NAMES_TOLD = {"ann", "bob", "cid", "dot", "eve", "fay"};
    static final String TOLD = "set by sum;point ann at 0 0 0;point bob at 30 0 0;point cid at 34 0 0;"
            + "point dot at 0 90 0;point eve at 200 200 200;point fay at 0 91 0;";

    /**
     * An object that keeps some of everything: of TOLD an image, a search that pruned, two rows
     * seen (by sum and most they fit), the seed 77; 1, 2, .. 6 refused calls of the six kinds, a text
     * with FAULT 2 among them; three acts (number 6 came, bob went, cid moved), and these bytes.
     */
    static ScaleNets rich(int... tape) {
        ScaleNets x = Check.of(TOLD);
        x.image();
        x.seed(77);
        Check.tape(x, 0, 3, 0, 90, 1, 4, 0, 9);
        x.see();
        x.seek(0, 90, 0);
        refuseSome(x);
        x.add(100, 100, 100);
        x.drop(1);
        x.move(2, 35, 0, 0);
        Check.tape(x, tape);
        return x;
    }

    static ScaleNets rich() {
        return rich(PART.chars().toArray());
    }

    /** An object without a set: the seed 77, 1, 2, .. 6 refused calls, and these bytes. */
    static ScaleNets bare(int... tape) {
        ScaleNets x = new ScaleNets();
        x.seed(77);
        refuseSome(x);
        Check.tape(x, tape);
        return x;
    }

    private static void refuseSome(ScaleNets x) {
        x.end(-1);
        Check.tape(x, "set by sum;point a at 256");
        x.set();
        x.see();
        for (int i = 0; i < 3; i++) {
            x.drop(39);
        }
        for (int i = 0; i < 4; i++) {
            x.by(9);
        }
        for (int i = 0; i < 5; i++) {
            x.undo();
        }
        for (int i = 0; i < 6; i++) {
            x.seed(-1);
        }
    }

    String ask(ScaleNets x) {
        switch (this) {
            case TAPE: return tape(x);
            case FAULT: return x.fault(0) + " at " + x.fault(1);
            case POINTS: return points(x);
            case NAMES: return names(x);
            case FREE: return x.add(251, 1, 1) + ", " + x.add(252, 1, 1) + ", " + x.add(253, 1, 1);
            case SEARCHED: return searched(x);
            case SEEN: return x.has(4) + " rows, fits " + x.fits(-1) + ": " + x.fits(0) + ", " + x.fits(1) + ", " + x.fits(2);
            case UNDONE: return undone(x);
            case SEED: return x.has(6) + ", behind a chance " + (x.chance(1) >= 0 ? x.has(6) : -1);
            case IMAGE: return Arrays.toString(Edges.octets(x));
            default: return Arrays.toString(Edges.refusals(x));
        }
    }

    /** How many bytes there are, and which, as far as the text that goes on behind them tells. */
    private static String tape(ScaleNets x) {
        int length = x.feed(0x20393b20, 0x20202020, 0x20202020, 0x20202020, 0x20202020);
        return "feed " + length + ", set " + x.set() + ", fault " + x.fault(0) + " at " + x.fault(1) + ", " + points(x);
    }

    static String points(ScaleNets x) {
        StringBuilder b = new StringBuilder("by " + x.has(1) + ", root " + x.has(2) + ",");
        int many = x.has(0);
        for (int k = 0; k < many; k++) {
            int p = x.net(0, k);
            b.append(' ').append(p).append(":");
            for (int what = 0; what < 5; what++) {
                b.append(x.point(p, what)).append(what < 4 ? "," : "");
            }
        }
        return b.toString();
    }

    /** The first letter of each point with a name, and whom each name that was told finds. */
    private static String names(ScaleNets x) {
        StringBuilder b = new StringBuilder();
        for (int p = 0; p < 40; p++) {
            if (x.letter(p, 0) > 0) {
                b.append(p).append((char) (96 + x.letter(p, 0))).append((char) (96 + x.letter(p, 2))).append(' ');
            }
        }
        for (String name : NAMES_TOLD) {
            b.append(named(x, name)).append(' ');
        }
        return b.toString().trim();
    }

    static int named(ScaleNets x, String name) {
        Check.tape(x, name);
        return x.named();
    }

    static String searched(ScaleNets x) {
        StringBuilder b = new StringBuilder(Arrays.toString(Edges.found(x)));
        for (int k = 0; k == 0 || x.pruned(k, 0) >= 0; k++) {
            for (int what = 0; what < 4; what++) {
                b.append(' ').append(x.pruned(k, what));
            }
        }
        return b.toString();
    }

    /** How many acts can be undone, and what each undo() leaves. */
    private static String undone(ScaleNets x) {
        StringBuilder b = new StringBuilder().append(x.has(5));
        while (x.undo()) {
            b.append(" | ").append(points(x)).append(" first letters ");
            for (int p = 0; p < 8; p++) {
                b.append(x.letter(p, 0)).append('.');
            }
        }
        return b.toString();
    }
}
