/** Promises 1 to 5, 7 and 8: a new object, the tape, the text of a set and its faults, names. */
public final class TextTest {
    private static final Check CHECK = new Check("TextTest");

    private static void fault(String text, int kind, int place) {
        ScaleNets x = new ScaleNets();
        Check.tape(x, text);
        CHECK.due("set() of '" + text + "'", x.set(), -1);
        CHECK.due("fault(0) of '" + text + "'", x.fault(0), kind);
        CHECK.due("fault(1) of '" + text + "'", x.fault(1), place);
        CHECK.due("status(1) of '" + text + "'", x.status(1), 1);
        CHECK.due("has(1) of '" + text + "'", x.has(1), -1);
    }

    private static void right(String text, int statements) {
        ScaleNets x = new ScaleNets();
        Check.tape(x, text);
        CHECK.due("set() of '" + text + "'", x.set(), statements);
        CHECK.due("fault(0) of '" + text + "'", x.fault(0), 0);
        CHECK.due("fault(1) of '" + text + "'", x.fault(1), -1);
        CHECK.due("has(0) of '" + text + "'", x.has(0), statements - 1);
    }

    private static void newObject() {
        ScaleNets x = new ScaleNets();
        int[] has = {0, -1, -1, -1, 0, 0, 1};
        for (int what = 0; what < 7; what++) {
            CHECK.due("has(" + what + ") of a new object", x.has(what), has[what]);
        }
        for (int what = 0; what < 6; what++) {
            CHECK.due("status of a new object", x.status(what), 0);
        }
        CHECK.due("end(1) of a new object", x.end(1), false);
        CHECK.due("end(0)", x.end(0), true);
        CHECK.due("octet(0) of a new object", x.octet(0), -1);
        CHECK.due("found(0) of a new object", x.found(0), -1);
    }

    private static void tapes() {
        ScaleNets x = new ScaleNets();
        for (int i = 1; i <= 80; i++) {
            CHECK.due("feed " + i, x.feed(0x20202020, -1, 0, Integer.MIN_VALUE, 7), 20 * i);
        }
        CHECK.due("feed beyond 1600", x.feed(1, 2, 3, 4, 5), -1);
        CHECK.due("status(0)", x.status(0), 1);
        CHECK.due("end(1601)", x.end(1601), false);
        CHECK.due("end(-1)", x.end(-1), false);
        CHECK.due("end(min)", x.end(Integer.MIN_VALUE), false);
        CHECK.due("status(0)", x.status(0), 4);
        CHECK.due("end(1600)", x.end(1600), true);
        CHECK.due("end(1581)", x.end(1581), true);
        CHECK.due("feed at 1581", x.feed(1, 2, 3, 4, 5), -1);
        CHECK.due("end(1580)", x.end(1580), true);
        CHECK.due("feed at 1580", x.feed(1, 2, 3, 4, 5), 1600);
        CHECK.due("end(3)", x.end(3), true);
        CHECK.due("end(4)", x.end(4), false);
        CHECK.due("feed behind end(3)", x.feed(1, 2, 3, 4, 5), 23);
        CHECK.due("status(0)", x.status(0), 6);
    }

    private static void forms() {
        right("set by sum;", 1);
        right("set by most;", 1);
        right("set by bits;", 1);
        right("\n set\nby  sum ; \n", 1);
        right("set by sum;point a at 1 2 3;", 2);
        right("set by sum;point\na\nat\n1\n2\n3\n;\npoint b at 001 02 0;", 3);
        right("set by sum;point points at 0 0 0;point abcdef at 255 255 255;point ats at 1 1 1;point z at 9 9 9;", 5);
        fault("", 1, 0);
        fault("  \n", 1, 3);
        fault(";", 1, 0);
        fault("point a at 1 2 3;", 1, 0);
        fault("se", 1, 0);
        fault("setby sum;", 1, 0);
        fault("Set by sum;", 1, 0);
        fault(" set  ", 1, 6);
        fault("set bysum;", 1, 4);
        fault("set by sums;", 1, 7);
        fault("set by 3;", 1, 7);
        fault("set by sum", 1, 10);
        fault("set by sum  ", 1, 12);
        fault("set by sum;;", 1, 11);
        fault("set by sum\t;", 1, 10);
        fault("set by sum; set by most;", 1, 12);
        fault("set by sum;poin", 1, 11);
        fault("set by sum;pointa at 1 2 3;", 1, 11);
        fault("set by sum;point", 1, 16);
        fault("set by sum;point ", 1, 17);
    }

    private static void names() {
        String ahead = "set by sum;point ";
        for (String own : new String[] {"set", "by", "sum", "most", "bits", "point", "at"}) {
            fault(ahead + own + " at 1 2 3;", 1, 17);
        }
        fault(ahead + "abcdefg at 1 2 3;", 1, 23);
        fault(ahead + "abcdefghij", 1, 23);
        fault(ahead + "5 at 1 2 3;", 1, 17);
        fault(ahead + "A at 1 2 3;", 1, 17);
        fault(ahead + "aB at 1 2 3;", 1, 18);
        fault(ahead + "a5 at 1 2 3;", 1, 18);
        fault(ahead + "a atx 1 2 3;", 1, 19);
        fault(ahead + "a 1 2 3;", 1, 19);
        fault(ahead + "ab at 1 2 3;point ab at x", 3, 35);
        fault(ahead + "abcdef at 1 2 3;point abcdefg", 1, 45);
        fault(ahead + "{ at 1 2 3;", 1, 17);
        fault(ahead + "` at 1 2 3;", 1, 17);
        fault(ahead + "\u00e9 at 1 2 3;", 1, 17);
    }

    private static void numbers() {
        String ahead = "set by sum;point a at ";
        fault(ahead, 1, 22);
        fault(ahead + "-1 2 3;", 1, 22);
        fault("set by sum;point a at5 2 3;", 1, 21);
        fault("set by sum;point a at;", 1, 21);
        fault(ahead + "256 2 3;", 2, 22);
        fault(ahead + "1 999 x;", 2, 24);
        fault(ahead + "1 2 300", 2, 26);
        fault(ahead + "0001 2 3;", 1, 25);
        fault(ahead + "1 2 2551;", 1, 29);
        fault(ahead + "1a 2 3;", 1, 23);
        fault(ahead + "1 2 3 4;", 1, 28);
        fault(ahead + "1 2 3", 1, 27);
        fault(ahead + "1 2 3point", 1, 27);
        fault(ahead + "1 2;", 1, 25);
        fault(ahead + "1 2 3;point b at 1 2 3;", 4, 39);
        fault(ahead + "1 2 3;point b at  01 002 3", 4, 40);
        fault(ahead + "1 2 3;point b at 1 2 3x", 4, 39);
        fault(ahead + "1 2 3;point b at 1 2 3000", 1, 46);
    }

    private static void crowds() {
        StringBuilder b = new StringBuilder("set by most;");
        for (int i = 0; i < 40; i++) {
            b.append("point x").append((char) ('a' + i / 10)).append((char) ('a' + i % 10)).append(" at ")
                    .append(i).append(" 0 0;");
        }
        right(b.toString(), 41);
        right(b + " \n", 41);
        fault(b + "point", 5, b.length());
        fault(b + " point xaa at 0 0 0;", 5, b.length() + 1);
        fault(b + "poin", 1, b.length());
        fault(b + "points", 1, b.length());
        fault(b + ";", 1, b.length());
    }

    private static void stays() {
        ScaleNets x = Check.of(Check.FOUR);
        x.seed(77);
        x.add(100, 100, 100);
        x.seek(5, 0, 0);
        Check.tape(x, 0, 1, 0, 3);
        CHECK.due("see()", x.see(), 1);
        String ahead = Edges.points(x);
        Check.tape(x, "set by sum;point a at 1 2 256;");
        CHECK.due("a set with a fault", x.set(), -1);
        CHECK.same("a set with a fault", Edges.points(x), ahead);
        CHECK.due("found(0) behind it", x.found(0), 1);
        CHECK.due("has(4) behind it", x.has(4), 1);
        CHECK.due("has(5) behind it", x.has(5), 1);
        CHECK.due("fault(0)", x.fault(0), 2);
        CHECK.due("fault(1)", x.fault(1), 26);
        CHECK.due("fault(2)", x.fault(2), -1);
        CHECK.due("fault(-1)", x.fault(-1), -1);
        CHECK.due("feed: the tape went", x.feed(0, 0, 0, 0, 0), 20);
        Check.tape(x, "set by bits;point q at 7 8 9;");
        CHECK.due("another set", x.set(), 2);
        CHECK.due("fault(0)", x.fault(0), 0);
        CHECK.due("fault(1)", x.fault(1), -1);
        int[] has = {1, 2, 0, -1, 0, 0, 77};
        for (int what = 0; what < 7; what++) {
            CHECK.due("has(" + what + ") behind another set", x.has(what), has[what]);
        }
        CHECK.due("found(0) behind another set", x.found(0), -1);
        CHECK.due("pruned(0, 0) behind another set", x.pruned(0, 0), -1);
        CHECK.due("undo() behind another set", x.undo(), false);
        CHECK.due("letter(0, 0)", x.letter(0, 0), 17);
        CHECK.due("feed: the tape went", x.feed(0, 0, 0, 0, 0), 20);
        Check.tape(x, "set by sum;");
        CHECK.due("a third set", x.set(), 1);
        CHECK.due("its measure", x.has(1), 0);
        CHECK.due("has(7)", x.has(7), -1);
        CHECK.due("has(-1)", x.has(-1), -1);
    }

    /** Bytes behind the end of the tape are none of it, though they were fed. */
    private static void behindTheEnd() {
        String text = "set by sum;point ab at 1 2 34;";
        for (int n = 0; n <= text.length(); n++) {
            ScaleNets x = new ScaleNets();
            Check.tape(x, text);
            CHECK.due("end(" + n + ")", x.end(n), true);
            boolean whole = n == 11 || n == text.length();
            CHECK.due("set() of the first " + n, x.set() >= 0, whole);
            CHECK.due("point(0, 2) of the first " + n, x.point(0, 2), n == text.length() ? 34 : -1);
        }
        ScaleNets y = new ScaleNets();
        Check.tape(y, text);
        y.end(10);
        y.set();
        CHECK.due("fault(1) of the first 10", y.fault(1), 10);
        Check.tape(y, text);
        y.end(28);
        y.set();
        CHECK.due("fault(1) of the first 28", y.fault(1), 28);
    }

    private static int named(ScaleNets x, String name) {
        Check.tape(x, name);
        return x.named();
    }

    private static void letters() {
        ScaleNets x = Check.of("set by sum;point abcxyz at 1 1 1;point m at 2 2 2;point ma at 3 3 3;");
        int[] abcxyz = {1, 2, 3, 24, 25, 26};
        for (int k = 0; k < 6; k++) {
            CHECK.due("letter(0, " + k + ")", x.letter(0, k), abcxyz[k]);
            CHECK.due("letter(1, " + k + ")", x.letter(1, k), k == 0 ? 13 : 0);
        }
        CHECK.due("letter(0, 6)", x.letter(0, 6), -1);
        CHECK.due("letter(0, -1)", x.letter(0, -1), -1);
        CHECK.due("letter(3, 0)", x.letter(3, 0), -1);
        CHECK.due("letter(-1, 0)", x.letter(-1, 0), -1);
        CHECK.due("letter(40, 0)", x.letter(40, 0), -1);
        CHECK.due("add", x.add(9, 9, 9), 3);
        CHECK.due("letter(3, 0) of one without a name", x.letter(3, 0), 0);
        CHECK.due("letter(3, 6)", x.letter(3, 6), -1);
        CHECK.due("named abcxyz", named(x, "abcxyz"), 0);
        CHECK.due("named m", named(x, "m"), 1);
        CHECK.due("named ma", named(x, "ma"), 2);
        CHECK.due("named am", named(x, "am"), -1);
        CHECK.due("named nothing", named(x, ""), -1);
        CHECK.due("named with a blank", named(x, "m "), -1);
        CHECK.due("named with a blank ahead", named(x, " m"), -1);
        CHECK.due("named abcxyza", named(x, "abcxyza"), -1);
        CHECK.due("named by one of level 0", named(Check.of(Check.FOUR), "c"), 2);
        CHECK.due("named M", named(x, "M"), -1);
        CHECK.due("named set", named(x, "set"), -1);
        CHECK.due("named `", named(x, "`"), -1);
        CHECK.due("feed: the tape went", x.feed(0, 0, 0, 0, 0), 20);
        CHECK.due("drop", x.drop(1), true);
        CHECK.due("named m that went", named(x, "m"), -1);
        CHECK.due("add at the number of m", x.add(2, 2, 2), 1);
        CHECK.due("letter of it", x.letter(1, 0), 0);
        CHECK.due("status: naming is not refused", x.status(1), 0);
    }

    public static void main(String[] args) {
        newObject();
        tapes();
        forms();
        names();
        numbers();
        crowds();
        stays();
        behindTheEnd();
        letters();
        CHECK.finish();
    }
}
