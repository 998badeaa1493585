/** Promises 45 to 47: image, octet, on. */
public final class ImageTest {
    private static final Check CHECK = new Check("ImageTest");
    private static final int[] FOUR_ROWS = {0, 4, 0, 0, 0, 0, 10, 255, 1, 3, 0, 0, 1, 0, 2, 4, 0, 0, 0, 1, 3, 0, 9, 0, 3, 0};

    private static int[] checked(int... rows) {
        int c = 149;
        for (int o : rows) {
            c = (3 * c + o) % 251;
        }
        int[] all = java.util.Arrays.copyOf(rows, rows.length + 1);
        all[rows.length] = c;
        return all;
    }

    private static void images() {
        ScaleNets x = new ScaleNets();
        CHECK.due("image() without a set", x.image(), -1);
        CHECK.due("octet(0)", x.octet(0), -1);
        x = Check.of(Check.FOUR);
        CHECK.due("octet(0) ahead of any image", x.octet(0), -1);
        int[] want = checked(FOUR_ROWS);
        CHECK.due("image()", x.image(), 27);
        for (int k = 0; k < 27; k++) {
            CHECK.due("octet(" + k + ")", x.octet(k), want[k]);
        }
        CHECK.due("octet(27)", x.octet(27), -1);
        CHECK.due("octet(-1)", x.octet(-1), -1);
        x.drop(3);
        CHECK.due("octet(1): the latest image stays", x.octet(1), 4);
        CHECK.due("image()", x.image(), 21);
        CHECK.due("octet(1)", x.octet(1), 3);
        CHECK.due("octet(21)", x.octet(21), -1);
        Check.tape(x, "set by bits;");
        x.set();
        CHECK.due("octet(1) behind a set", x.octet(1), 3);
        CHECK.due("image() without points", x.image(), 3);
        CHECK.due("octet(0)", x.octet(0), 2);
        CHECK.due("octet(1)", x.octet(1), 0);
        CHECK.due("octet(2)", x.octet(2), (3 * ((3 * 149 + 2) % 251)) % 251);
        for (int i = 0; i < 40; i++) {
            x.add(255, 255, i);
        }
        CHECK.due("image() of 40", x.image(), 243);
        int[] forty = new int[243];
        for (int k = 0; k < 243; k++) {
            forty[k] = x.octet(k);
        }
        on("an image of 40", true, forty);
    }

    private static void on(String what, boolean want, int... bytes) {
        ScaleNets x = Check.of("set by most;point q at 50 60 70;");
        x.add(1, 1, 1);
        String ahead = Edges.points(x);
        Check.tape(x, bytes);
        CHECK.due("on(): " + what, x.on(), want);
        CHECK.due("status(5): " + what, x.status(5), want ? 0 : 1);
        CHECK.due("has(5): " + what, x.has(5), want ? 0 : 1);
        CHECK.due("the tape went: " + what, x.feed(0, 0, 0, 0, 0), 20);
        if (!want) {
            CHECK.same("on(): " + what, Edges.points(x), ahead);
        }
    }

    private static int[] with(int place, int octet) {
        int[] rows = FOUR_ROWS.clone();
        rows[place] = octet;
        return checked(rows);
    }

    private static void reads() {
        on("four points", true, checked(FOUR_ROWS));
        on("no points", true, checked(2, 0));
        on("one point", true, checked(1, 1, 39, 255, 255, 255, 10, 255));
        int[] broken = checked(FOUR_ROWS);
        broken[26] = (broken[26] + 1) % 251;
        on("a wrong last byte", false, broken);
        on("nothing", false);
        on("one byte", false, 149);
        on("two bytes", false, 0, (3 * 149) % 251);
        on("no such measure", false, with(0, 3));
        on("more points than rows", false, with(1, 5));
        on("fewer points than rows", false, with(1, 3));
        on("41 points", false, checked(java.util.Arrays.copyOf(new int[] {0, 41}, 2 + 6 * 41)));
        on("like numbers", false, with(8, 0));
        on("numbers that fall", false, with(14, 1));
        on("like numbers, all else right", false, checked(0, 3, 0, 0, 0, 0, 10, 255, 1, 8, 0, 0, 3, 0, 1, 16, 0, 0, 4, 0));
        on("numbers that fall, all else right", false, checked(0, 3, 0, 0, 0, 0, 10, 255, 2, 8, 0, 0, 3, 0, 1, 16, 0, 0, 4, 0));
        on("numbers that rise, as those", true, checked(0, 3, 0, 0, 0, 0, 10, 255, 1, 8, 0, 0, 3, 0, 2, 16, 0, 0, 4, 0));
        on("a number of 40", false, with(20, 40));
        on("like places", false, with(15, 3));
        on("none of level 10", false, with(6, 9));
        on("a root with a parent", false, with(7, 0));
        on("two of level 10", false, checked(0, 2, 0, 0, 0, 0, 10, 255, 1, 255, 255, 255, 10, 255));
        on("a level of 11", false, with(6, 11));
        on("a parent that is none", false, with(25, 7));
        on("no parent, but not the root", false, with(25, 255));
        on("a parent that is itself", false, with(19, 2));
        on("a parent of too low a level", false, with(25, 1));
        on("a parent one level up", true, checked(0, 3, 0, 0, 0, 0, 10, 255, 1, 3, 0, 0, 1, 0, 2, 4, 0, 0, 0, 1));
        on("a parent as far as 2 to the level and 1, or farther", false, with(24, 2));
        on("two nearer than 2 to their level", false, with(24, 4));
        on("two of level 1 that are 1 far", false, with(18, 1));
    }

    private static void edges() {
        // 8 far from the root: at level 4 it is too near to it, at level 2 its parent is not nearer than 8.
        on("8 far at level 3", true, checked(0, 2, 0, 0, 0, 0, 10, 255, 1, 8, 0, 0, 3, 0));
        on("8 far at level 4", false, checked(0, 2, 0, 0, 0, 0, 10, 255, 1, 8, 0, 0, 4, 0));
        on("8 far at level 2", false, checked(0, 2, 0, 0, 0, 0, 10, 255, 1, 8, 0, 0, 2, 0));
        on("5 far at level 2", true, checked(0, 2, 0, 0, 0, 0, 10, 255, 1, 5, 0, 0, 2, 0));
        on("5 far at level 1", false, checked(0, 2, 0, 0, 0, 0, 10, 255, 1, 5, 0, 0, 1, 0));
        // A child may have a parent that is not the nearest.
        on("not the nearest parent", true, checked(0, 3, 0, 0, 0, 0, 10, 255, 1, 8, 0, 0, 3, 0, 2, 5, 0, 0, 1, 1));
        on("by bits", true, checked(2, 2, 5, 255, 0, 0, 10, 255, 9, 0, 0, 0, 3, 5));
        on("by most", false, checked(1, 2, 5, 255, 0, 0, 10, 255, 9, 0, 0, 0, 3, 5));
    }

    private static void asTold() {
        ScaleNets x = Check.of(Check.FOUR);
        x.drop(2);
        x.seed(5);
        x.seek(0, 9, 0);
        Check.tape(x, 0, 1, 0, 3);
        x.see();
        x.by(1);
        x.goes(0, 0);
        Check.tape(x, checked(0, 3, 0, 0, 0, 0, 10, 255, 1, 8, 0, 0, 3, 0, 2, 5, 0, 0, 1, 1));
        CHECK.due("on()", x.on(), true);
        int[] has = {3, 0, 0, 3, 1, 0, 5};
        for (int what = 0; what < 7; what++) {
            CHECK.due("has(" + what + ") behind on()", x.has(what), has[what]);
        }
        CHECK.due("letter(0, 0)", x.letter(0, 0), 0);
        CHECK.due("letter(1, 0)", x.letter(1, 0), 0);
        CHECK.due("parent of 2", x.point(2, 4), 1);
        CHECK.due("level of 2", x.point(2, 3), 1);
        CHECK.due("no point 3", x.point(3, 3), -1);
        CHECK.due("what was searched stays", x.found(0), 0);
        CHECK.due("undo()", x.undo(), false);
        CHECK.due("image()", x.image(), 21);
        int[] rows = new int[21];
        for (int k = 0; k < 21; k++) {
            rows[k] = x.octet(k);
        }
        x.chance(30);
        Check.tape(x, rows);
        CHECK.due("on() of its own image", x.on(), true);
        x.image();
        for (int k = 0; k < 21; k++) {
            CHECK.due("octet again", x.octet(k), rows[k]);
        }
        ScaleNets fresh = new ScaleNets();
        Check.tape(fresh, checked(FOUR_ROWS));
        CHECK.due("on() without a set", fresh.on(), false);
        CHECK.due("status(5)", fresh.status(5), 1);
        CHECK.due("the tape went", fresh.feed(0, 0, 0, 0, 0), 20);
    }

    public static void main(String[] args) {
        images();
        reads();
        edges();
        asTold();
        CHECK.finish();
    }
}
