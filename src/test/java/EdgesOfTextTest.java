import java.util.Arrays;

/** Promises 1 to 5, 7 and 8 at their edges: the tape, the text of a SET with its FAULTS (Terms, I), NAMES. */
public final class EdgesOfTextTest {
    private static final Check CHECK = new Check("EdgesOfTextTest");
    /** 17 bytes, where a NAME is asked; 22 bytes, where a number is. */
    private static final String TO_NAME = "set by sum;point ";
    private static final String TO_PLACE = "set by sum;point a at ";
    private static final String[] OWN_WORDS = {"set", "by", "sum", "most", "bits", "point", "at"};

    private static ScaleNets right(String text, int statements) {
        ScaleNets x = new ScaleNets();
        Check.tape(x, text);
        CHECK.due("set() of '" + text + "'", x.set(), statements);
        CHECK.due("fault(0) of '" + text + "'", x.fault(0), 0);
        CHECK.due("fault(1) of '" + text + "'", x.fault(1), -1);
        CHECK.due("has(0) of '" + text + "'", x.has(0), statements - 1);
        return x;
    }

    private static void wrong(String text, int fault, int place) {
        ScaleNets x = new ScaleNets();
        Check.tape(x, text);
        CHECK.due("set() of '" + text + "'", x.set(), -1);
        CHECK.due("fault(0) of '" + text + "'", x.fault(0), fault);
        CHECK.due("fault(1) of '" + text + "'", x.fault(1), place);
        CHECK.due("has(1) of '" + text + "'", x.has(1), -1);
    }

    private static void blanks(ScaleNets x, int feeds) {
        for (int i = 0; i < feeds; i++) {
            x.feed(0x20202020, 0x20202020, 0x20202020, 0x20202020, 0x20202020);
        }
    }

    private static int named(ScaleNets x, String name) {
        Check.tape(x, name);
        return x.named();
    }

    // ---- 1

    static void promise01_newObject_noPointsAtAnyNumber() {
        ScaleNets x = new ScaleNets();
        CHECK.due("has(0)", x.has(0), 0);
        CHECK.due("has(2)", x.has(2), -1);
        for (int p = 0; p < 40; p++) {
            CHECK.due("point(" + p + ", 3)", x.point(p, 3), -1);
        }
    }

    static void promise01_newObject_theSeedIs1() {
        CHECK.due("has(6)", new ScaleNets().has(6), 1);
    }

    static void promise01_newObject_emptyTapeAndNothingRefused() {
        ScaleNets x = new ScaleNets();
        CHECK.same("new", Arrays.toString(Edges.refusals(x)), "[0, 0, 0, 0, 0, 0]");
        CHECK.due("end(0)", x.end(0), true);
        CHECK.due("end(1)", x.end(1), false);
    }

    // ---- 2

    static void promise02_feed_theHighestByteOfEachNumberFirst() {
        ScaleNets x = new ScaleNets();
        // "set by sum;point ab " and "at 1 2 3;" with blanks behind.
        CHECK.due("feed", x.feed(0x73657420, 0x62792073, 0x756d3b70, 0x6f696e74, 0x20616220), 20);
        CHECK.due("feed", x.feed(0x61742031, 0x20322033, 0x3b202020, 0x20202020, 0x20202020), 40);
        CHECK.due("set()", x.set(), 2);
        CHECK.due("point(0, 0)", x.point(0, 0), 1);
        CHECK.due("point(0, 1)", x.point(0, 1), 2);
        CHECK.due("point(0, 2)", x.point(0, 2), 3);
        CHECK.due("letter(0, 1)", x.letter(0, 1), 2);
    }

    static void promise02_feed_numbersBelow0AreFourBytesToo() {
        ScaleNets x = Edges.empty("sum");
        int c = Edges.checked(1, 1, 0, 255, 128, 255, 10, 255)[8];
        CHECK.due("feed", x.feed(0x010100FF, 0x80FF0AFF, c << 24, -1, Integer.MIN_VALUE), 20);
        CHECK.due("end(9)", x.end(9), true);
        CHECK.due("on()", x.on(), true);
        CHECK.due("point(0, 0)", x.point(0, 0), 255);
        CHECK.due("point(0, 1)", x.point(0, 1), 128);
    }

    static void promise02_feed_comesBehindThoseOnTheTape() {
        ScaleNets x = new ScaleNets();
        CHECK.due("feed", x.feed(0x73657478, 0, 0, 0, 0), 20);
        CHECK.due("end(3)", x.end(3), true);
        CHECK.due("feed behind 3", x.feed(0x20627920, 0x6d6f7374, 0x3b202020, 0x20202020, 0x20202020), 23);
        CHECK.due("set()", x.set(), 1);
        CHECK.due("has(1)", x.has(1), 1);
    }

    static void promise02_feed_the80thIsTakenThe81stIsRefused() {
        ScaleNets x = new ScaleNets();
        for (int i = 1; i <= 80; i++) {
            CHECK.due("feed " + i, x.feed(i, i, i, i, i), 20 * i);
        }
        CHECK.due("feed 81", x.feed(1, 1, 1, 1, 1), -1);
        CHECK.due("feed 82", x.feed(1, 1, 1, 1, 1), -1);
        CHECK.due("status(0)", x.status(0), 2);
        CHECK.due("end(1601)", x.end(1601), false);
        CHECK.due("end(1600)", x.end(1600), true);
    }

    static void promise02_feed_takenBehind1580RefusedBehind1581() {
        ScaleNets x = new ScaleNets();
        blanks(x, 80);
        x.end(1581);
        CHECK.due("feed behind 1581", x.feed(1, 1, 1, 1, 1), -1);
        CHECK.due("status(0)", x.status(0), 1);
        CHECK.due("end(1582): no byte came", x.end(1582), false);
        x.end(1580);
        CHECK.due("feed behind 1580", x.feed(1, 1, 1, 1, 1), 1600);
        CHECK.due("status(0)", x.status(0), 2);
    }

    static void promise02_feed_refusedLeavesTapeAndAllElse() {
        ScaleNets x = Edges.rich();
        Check.tape(x, "set by bits;        ");
        blanks(x, 79);
        Edges.refused(CHECK, "feed", x, 0, -1, y -> y.feed(0x78787878, 0, 0, 0, 0));
        CHECK.due("set() of the 1600 bytes", x.set(), 1);
        CHECK.due("has(1)", x.has(1), 2);
    }

    static void promise02_feed_the1600thByteIsRead() {
        String text = Check.FOUR.substring(0, Check.FOUR.length() - 1);
        ScaleNets x = new ScaleNets();
        Check.tape(x, text + " ".repeat(1599 - text.length()) + ";");
        CHECK.due("set() with ';' at 1599", x.set(), 5);
        Check.tape(x, text + " ".repeat(1599 - text.length()) + ":");
        CHECK.due("set() with ':' at 1599", x.set(), -1);
        CHECK.due("fault(1)", x.fault(1), 1599);
        Check.tape(x, text + " ".repeat(1600 - text.length()));
        CHECK.due("set() of 1600 bytes that end too soon", x.set(), -1);
        CHECK.due("fault(1)", x.fault(1), 1600);
    }

    static void promise02_feed_callsThatDoNotTakeTheTapeLeaveIt() {
        ScaleNets x = Edges.rich();
        Check.tape(x, "abc");
        Edges.everything(x);
        x.fault(0);
        x.at(1, 1, 1);
        x.child(0, 0);
        x.far(0, 1);
        x.above(2, 3);
        x.loose(1, 2);
        x.most(0);
        x.nth(1, 1, 1, 0);
        x.within(1, 1, 1, 5);
        x.remote(1, 1, 1, 0);
        x.centers(2, 0);
        x.center(1, 2);
        x.pair(0);
        x.thin(1);
        x.link(0, 0);
        x.group(0, 5);
        x.groups(5);
        x.comes(1, 1, 1, 0);
        x.goes(0, 0);
        x.anew(0);
        x.add(1, 1, 1);
        x.drop(0);
        x.move(1, 7, 7, 7);
        x.by(2);
        x.lay();
        x.chance(3);
        x.undo();
        x.seed(3);
        x.image();
        x.status(0);
        CHECK.due("feed behind the three", x.feed(0, 0, 0, 0, 0), 23);
    }

    // ---- 3

    static void promise03_end_allThatThereAreAndNoneAreTaken() {
        ScaleNets x = new ScaleNets();
        blanks(x, 2);
        CHECK.due("end(40) of 40", x.end(40), true);
        CHECK.due("end(39)", x.end(39), true);
        CHECK.due("end(0)", x.end(0), true);
        CHECK.due("end(0) of none", x.end(0), true);
        CHECK.due("feed: nothing is there", x.feed(0, 0, 0, 0, 0), 20);
        CHECK.due("status(0)", x.status(0), 0);
    }

    static void promise03_end_oneMoreThanThereAreIsRefused() {
        endIsRefused(13);
        endIsRefused(Integer.MAX_VALUE);
    }

    static void promise03_end_below0IsRefused() {
        endIsRefused(-1);
        endIsRefused(Integer.MIN_VALUE);
    }

    private static void endIsRefused(int n) {
        ScaleNets x = Edges.rich();
        Check.tape(x, "set by most;");
        Edges.refused(CHECK, "end(" + n + ") of 12", x, 0, 0, y -> y.end(n) ? 1 : 0);
        CHECK.due("set() of all 12", x.set(), 1);
    }

    static void promise03_end_ofAnEmptyTape() {
        ScaleNets x = new ScaleNets();
        CHECK.due("end(1)", x.end(1), false);
        CHECK.due("end(0)", x.end(0), true);
        CHECK.due("status(0)", x.status(0), 1);
    }

    static void promise03_end_bytesCutOffAreGone() {
        ScaleNets x = new ScaleNets();
        Check.tape(x, TO_NAME + "b at 1 1 1;");
        CHECK.due("end(11)", x.end(11), true);
        CHECK.due("end(12): they do not come back", x.end(12), false);
        CHECK.due("set() of the first 11", x.set(), 1);
    }

    static void promise03_end_theFirstBytesAlone() {
        String text = TO_PLACE + "1 2 34;";
        ScaleNets x = new ScaleNets();
        for (int n : new int[] {10, 18, 28}) {
            Check.tape(x, text);
            x.end(n);
            CHECK.due("set() of the first " + n, x.set(), -1);
            CHECK.due("fault(1) of the first " + n, x.fault(1), n);
        }
        Check.tape(x, text);
        x.end(text.length());
        CHECK.due("set() of all", x.set(), 2);
        Check.tape(x, "ab");
        x.end(1);
        CHECK.due("named by the first letter", x.named(), 0);
    }

    // ---- 4: the text

    static void promise04_set_anEmptyTextHasFault1At0() {
        ScaleNets x = new ScaleNets();
        CHECK.due("set() of no tape", x.set(), -1);
        CHECK.due("fault(0)", x.fault(0), 1);
        CHECK.due("fault(1)", x.fault(1), 0);
        CHECK.due("status(1)", x.status(1), 1);
    }

    static void promise04_set_aTextOfBlanksHasFault1AtItsLength() {
        wrong(" ", 1, 1);
        wrong("\n", 1, 1);
        wrong(" \n  \n", 1, 5);
        wrong(" ".repeat(1600), 1, 1600);
    }

    static void promise04_set_howManyStatements() {
        right("set by sum;", 1);
        right(TO_PLACE + "0 0 0;", 2);
        right(Edges.fortyPoints(), 41);
    }

    static void promise04_set_theMeasuresAreThree() {
        CHECK.due("sum", right("set by sum;", 1).has(1), 0);
        CHECK.due("most", right("set by most;", 1).has(1), 1);
        CHECK.due("bits", right("set by bits;", 1).has(1), 2);
        ScaleNets x = new ScaleNets();
        String[] words = {"bits", "sum", "most", "sum", "bits", "most"};
        int[] measures = {2, 0, 1, 0, 2, 1};
        for (int i = 0; i < words.length; i++) {
            Check.tape(x, "set by " + words[i] + ";");
            x.set();
            CHECK.due(words[i] + " behind another", x.has(1), measures[i]);
        }
        for (String other : new String[] {"set", "by", "point", "at", "su", "sums", "mos", "mosts", "bit", "bitsa", "x", "0", ";"}) {
            wrong("set by " + other + ";", 1, 7);
        }
    }

    static void promise04_set_theFirstStatementAndItAlone() {
        wrong("point a at 0 0 0;", 1, 0);
        wrong("point a at 0 0 0;set by sum;", 1, 0);
        wrong("set by sum;set by sum;", 1, 11);
        wrong(TO_PLACE + "0 0 0;set by most;", 1, 28);
    }

    static void promise04_set_eachStatementHasItsSemicolon() {
        wrong(";", 1, 0);
        wrong("set by sum;;", 1, 11);
        wrong("set by sum point a at 0 0 0;", 1, 11);
        wrong("set by sum,", 1, 10);
        wrong(TO_PLACE + "0 0 0;;", 1, 28);
        wrong(TO_PLACE + "0 0 0 point b at 1 1 1;", 1, 28);
        wrong(TO_PLACE + "0 0 0:", 1, 27);
    }

    static void promise04_set_numbers0And255AreTaken() {
        for (int number : new int[] {0, 255}) {
            ScaleNets x = right(TO_PLACE + number + " " + number + " " + number + ";", 2);
            CHECK.due("its place", x.at(number, number, number), 0);
        }
    }

    static void promise04_set_number256IsFault2AtIt() {
        for (int number : new int[] {256, 257, 300, 999}) {
            wrong(TO_PLACE + number + " 0 0;", 2, 22);
            wrong(TO_PLACE + "0 " + number + " 0;", 2, 24);
            wrong(TO_PLACE + "0 0 " + number + ";", 2, 26);
        }
        wrong(TO_PLACE + "0 0  \n256", 2, 28);
    }

    static void promise04_set_oneToThreeDigits() {
        CHECK.due("its place", right(TO_PLACE + "7 07 007;", 2).at(7, 7, 7), 0);
        CHECK.due("its place", right(TO_PLACE + "000 00 0;", 2).at(0, 0, 0), 0);
        CHECK.due("its place", right(TO_PLACE + "9 99 199;", 2).at(9, 99, 199), 0);
    }

    static void promise04_set_aFourthDigitIsFault1AtItself() {
        wrong(TO_PLACE + "0007 0 0;", 1, 25);
        wrong(TO_PLACE + "0 0007 0;", 1, 27);
        wrong(TO_PLACE + "0 0 0007;", 1, 29);
        wrong(TO_PLACE + "00007 0 0;", 1, 25);
        wrong(TO_PLACE + "1234", 1, 25);
        wrong(TO_PLACE + "2560 0 0;", 1, 25);
        wrong(TO_PLACE + "1 2 0;point b at 1 2 0000;", 1, 46);
        wrong(TO_PLACE + "1 2 7;point b at 1 2 0007;", 1, 46);
    }

    static void promise04_set_whereANumberIsAskedNothingElse() {
        wrong(TO_PLACE + "x 0 0;", 1, 22);
        wrong(TO_PLACE + "; ", 1, 22);
        wrong(TO_PLACE + "-1 0 0;", 1, 22);
        wrong(TO_PLACE + "+1 0 0;", 1, 22);
        wrong(TO_PLACE + "/ 0 0;", 1, 22);
        wrong(TO_PLACE + ": 0 0;", 1, 22);
        wrong(TO_PLACE + "0 0;", 1, 25);
        wrong(TO_PLACE + "0 at 0;", 1, 24);
        wrong(TO_PLACE + "0 0 0 0;", 1, 28);
    }

    static void promise04_set_fortyPointsAreTaken() {
        ScaleNets x = right(Edges.fortyPoints(), 41);
        CHECK.due("the last", x.point(39, 0), 39);
        CHECK.due("none behind it", x.point(40, 0), -1);
    }

    static void promise04_set_a41stPointIsFault5AtThatWord() {
        String forty = Edges.fortyPoints();
        wrong(forty + "point z at 0 1 0;", 5, forty.length());
        wrong(forty + " \npoint z at 0 1 0;", 5, forty.length() + 2);
        wrong(forty + "point", 5, forty.length());
        wrong(forty + "point xaa at 0 0 0;", 5, forty.length());
        wrong(forty + "point 7", 5, forty.length());
    }

    static void promise04_set_behindFortyPointsOtherBytesAreFault1() {
        String forty = Edges.fortyPoints();
        right(forty + " \n", 41);
        wrong(forty + "set by sum;", 1, forty.length());
        wrong(forty + "points", 1, forty.length());
        wrong(forty + "poin", 1, forty.length());
        wrong(forty + ";", 1, forty.length());
    }

    static void promise04_set_noTwoAtOnePlaceFault4AtItsFirstNumber() {
        wrong(TO_PLACE + "1 2 3;point b at 1 2 3;", 4, 39);
        wrong(TO_PLACE + "1 2 3;point b at \n 001 02 3;", 4, 41);
        wrong(TO_PLACE + "1 2 3;point b at 9 9 9;point c at 1 2 3", 4, 56);
        wrong(TO_PLACE + "0 0 0;point b at 0 0 0;", 4, 39);
    }

    static void promise04_set_placesUnlikeInOneNumberAreTwo() {
        right(TO_PLACE + "1 2 3;point b at 0 2 3;point c at 1 1 3;point d at 1 2 2;", 5);
        right(TO_PLACE + "0 0 1;point b at 0 1 0;point c at 1 0 0;", 4);
    }

    static void promise04_set_placesOfAnEarlierSetAreFree() {
        ScaleNets x = Check.of(Edges.fortyPoints());
        Check.tape(x, "set by sum;point xaa at 5 0 0;point xab at 0 0 0;");
        CHECK.due("set() with names and places of an earlier one", x.set(), 3);
    }

    static void promise04_set_namesOfOneAndOfSixLettersAreTaken() {
        CHECK.due("letter(0, 0)", right(TO_NAME + "q at 0 0 0;", 2).letter(0, 0), 17);
        CHECK.due("letter(0, 5)", right(TO_NAME + "abcdef at 0 0 0;", 2).letter(0, 5), 6);
    }

    static void promise04_set_aSeventhLetterIsFault1AtItself() {
        wrong(TO_NAME + "abcdefg at 0 0 0;", 1, 23);
        wrong(TO_NAME + "abcdefgh at 0 0 0;", 1, 23);
        wrong(TO_NAME + "abcdefg", 1, 23);
        wrong(TO_NAME + "pointss at 0 0 0;", 1, 23);
        wrong(TO_NAME + "abcdef at 0 0 0;point abcdefg at 1 1 1;", 1, 45);
    }

    static void promise04_set_aNameOfNoLetterIsFault1() {
        wrong(TO_NAME + "; at 0 0 0;", 1, 17);
        wrong(TO_NAME + "7 at 0 0 0;", 1, 17);
        wrong(TO_NAME, 1, 17);
        wrong(TO_NAME + "  at 0 0 0;", 1, 19);
    }

    static void promise04_set_lettersAreAToZ() {
        CHECK.due("a", right(TO_NAME + "a at 0 0 0;", 2).letter(0, 0), 1);
        CHECK.due("z", right(TO_NAME + "z at 0 0 0;", 2).letter(0, 0), 26);
        for (String other : new String[] {"`", "{", "@", "A", "Z", "[", "_", "\u00e9", "\u00ff"}) {
            wrong(TO_NAME + other + " at 0 0 0;", 1, 17);
            wrong(TO_NAME + "k" + other + " at 0 0 0;", 1, 18);
        }
    }

    static void promise04_set_aNameThatIsThereIsFault3AtIt() {
        wrong(TO_NAME + "ab at 0 0 0;point ab at 1 1 1;", 3, 35);
        wrong(TO_NAME + "ab at 0 0 0;point  \nab", 3, 37);
        wrong(TO_NAME + "abcdef at 0 0 0;point abcdef at 1 1 1;", 3, 39);
        wrong(TO_NAME + "a at 0 0 0;point b at 1 1 1;point a at 2 2 2;", 3, 51);
        wrong(TO_NAME + "a at 0 0 0;point b at 1 1 1;point b at 2 2 2;", 3, 51);
    }

    static void promise04_set_namesUnlikeInOneLetterOrInLengthAreTwo() {
        right(TO_NAME + "abcdef at 0 0 0;point abcdee at 1 1 1;point bbcdef at 2 2 2;point abcde at 3 3 3;", 5);
        right(TO_NAME + "a at 0 0 0;point aa at 1 1 1;point aaa at 2 2 2;point ab at 3 3 3;point ba at 4 4 4;", 6);
    }

    static void promise04_set_ownWordsAreNoNamesFault1AtTheirFirstByte() {
        for (String own : OWN_WORDS) {
            wrong(TO_NAME + own + " at 0 0 0;", 1, 17);
            wrong(TO_NAME + own, 1, 17);
            wrong(TO_NAME + own + "7", 1, 17);
        }
    }

    static void promise04_set_ownWordsWithALetterMoreOrLessAreNames() {
        for (String own : OWN_WORDS) {
            right(TO_NAME + own + "x at 0 0 0;", 2);
            right(TO_NAME + "x" + own + " at 0 0 0;", 2);
            right(TO_NAME + own.substring(1) + " at 0 0 0;", 2);
            right(TO_NAME + own.substring(0, own.length() - 1) + " at 0 0 0;", 2);
        }
    }

    static void promise04_set_blanksAre10And32Alone() {
        right("\nset\nby\nsum\n;\npoint\na\nat\n0\n0\n0\n;\n", 2);
        right(" set by sum ; point a at 0 0 0 ; ", 2);
        right(" \n \nset\n by  sum;", 1);
        for (int other : new int[] {0, 8, 9, 11, 12, 13, 31, 33, 128, 160, 255}) {
            wrong("set" + (char) other + "by sum;", 1, 3);
            wrong((char) other + "set by sum;", 1, 0);
            wrong("set by sum;" + (char) other, 1, 11);
            wrong(TO_PLACE + "0" + (char) other + "0 0;", 1, 23);
        }
    }

    static void promise04_set_noBlankIsNeededBesideASemicolon() {
        right("set by sum;point a at 0 0 0;point b at 1 1 1;", 3);
    }

    static void promise04_set_wordsAndNumbersSideBySideNeedABlank() {
        wrong("setby sum;", 1, 0);
        wrong("set bysum;", 1, 4);
        wrong("set by sum;pointa at 0 0 0;", 1, 11);
        wrong(TO_NAME + "aat 0 0 0;", 1, 21);
        wrong("set by sum;point a at0 0 0;", 1, 21);
        wrong(TO_NAME + "a0 at 0 0 0;", 1, 18);
        wrong(TO_PLACE + "0a 0 0;", 1, 23);
        wrong(TO_PLACE + "0 0 0a;", 1, 27);
        wrong("set5 by sum;", 1, 3);
    }

    static void promise04_set_wrongWordsWholeAtTheirFirstByte() {
        wrong("sett by sum;", 1, 0);
        wrong("Set by sum;", 1, 0);
        wrong("sEt by sum;", 1, 0);
        wrong("set bye sum;", 1, 4);
        wrong("set by sum;pointer a at 0 0 0;", 1, 11);
        wrong(TO_NAME + "a ax 0 0 0;", 1, 19);
        wrong(TO_NAME + "a atx 0 0 0;", 1, 19);
        wrong(TO_NAME + "a b at 0 0 0;", 1, 19);
        wrong(TO_NAME + "a 17 0 0;", 1, 19);
    }

    /** Of each beginning of a text: where it ends too soon; a word cut short is a wrong word. */
    static void promise04_set_endingTooSoonIsFault1AtTheLength() {
        String text = "set by sum;point ab at 1 2 34;";
        int[] place = {0, 0, 0, 3, 4, 4, 6, 7, 7, 7, 10, -1, 11, 11, 11, 11, 16, 17, 18, 19, 20, 20, 22, 23, 24, 25, 26, 27, 28, 29};
        for (int n = 0; n < place.length; n++) {
            if (place[n] >= 0) {
                wrong(text.substring(0, n), 1, place[n]);
            }
        }
        wrong("set by sum;point ab at 1 2 34 \n ", 1, 32);
        right(text, 2);
    }

    static void promise04_set_theFirstFaultAlongTheText() {
        wrong(TO_PLACE + "256 999 0;", 2, 22);
        wrong(TO_PLACE + "0 256 x;", 2, 24);
        wrong(TO_PLACE + "0 x 256;", 1, 24);
        wrong(TO_PLACE + "0 0 0;point a at 0 0 0;", 3, 34);
        wrong(TO_PLACE + "0 0 0;point a!", 3, 34);
        wrong(TO_PLACE + "0 0 0;point b at 0 0 0!", 4, 39);
        wrong(TO_PLACE + "0 0 0;point b at 0 0 0 set", 4, 39);
        wrong(TO_PLACE + "0 0 0;point b at 0 0 256;", 2, 43);
        wrong(TO_PLACE + "256!", 2, 22);
        wrong("x" + TO_PLACE + "256 0 0;", 1, 0);
    }

    // ---- 4: the call

    static void promise04_set_theTapeGoesWithAFaultAndWithout() {
        ScaleNets x = new ScaleNets();
        Check.tape(x, "set by nothing;");
        x.set();
        CHECK.due("feed behind a fault", x.feed(0, 0, 0, 0, 0), 20);
        Check.tape(x, "set by sum;");
        x.set();
        CHECK.due("feed behind a set", x.feed(0, 0, 0, 0, 0), 20);
        x.end(0);
        CHECK.due("set() again", x.set(), -1);
    }

    static void promise04_set_eachFaultIsRefusedAndAllStays() {
        String[] texts = {"", "set by sum", TO_PLACE + "0 0 256;", TO_PLACE + "0 0 0;point a at 1 1 1;",
            TO_PLACE + "0 0 0;point b at 0 0 0;", Edges.fortyPoints() + "point z at 0 1 0;"};
        for (String text : texts) {
            Edges.refusedOfRich(CHECK, "set() of '" + text + "'", 1, -1, x -> {
                Check.tape(x, text);
                return x.set();
            });
        }
    }

    static void promise04_set_aFaultBeforeAnySetLeavesNoSet() {
        ScaleNets x = new ScaleNets();
        Check.tape(x, TO_PLACE + "0 0 0;point b at 1 1 256;");
        CHECK.due("set()", x.set(), -1);
        CHECK.due("has(0)", x.has(0), 0);
        CHECK.due("has(1)", x.has(1), -1);
        CHECK.due("add", x.add(1, 1, 1), -1);
    }

    static void promise04_set_nothingIsSeenSearchedOrCanBeUndone() {
        ScaleNets x = Edges.rich();
        Check.tape(x, "set by most;point q at 7 8 9;");
        CHECK.due("set()", x.set(), 2);
        CHECK.due("has(4)", x.has(4), 0);
        CHECK.due("fits(NONE)", x.fits(-1), 3);
        CHECK.same("set()", Arrays.toString(Edges.found(x)), "[-1, -1, -1, -1]");
        CHECK.due("pruned(0, 0)", x.pruned(0, 0), -1);
        CHECK.due("has(5)", x.has(5), 0);
        CHECK.due("undo()", x.undo(), false);
    }

    static void promise04_set_theSeedAndTheCountsStay() {
        ScaleNets x = Edges.rich();
        x.drop(39);
        Check.tape(x, "set by most;");
        CHECK.due("set()", x.set(), 1);
        CHECK.due("has(6)", x.has(6), 77);
        CHECK.same("set()", Arrays.toString(Edges.refusals(x)), "[0, 0, 1, 0, 0, 0]");
    }

    static void promise04_set_pointsOfAnEarlierSetAreGone() {
        ScaleNets x = Check.of(Edges.fortyPoints());
        Check.tape(x, "set by sum;");
        CHECK.due("set()", x.set(), 1);
        CHECK.due("has(0)", x.has(0), 0);
        CHECK.due("has(2)", x.has(2), -1);
        CHECK.due("point(39, 0)", x.point(39, 0), -1);
        CHECK.due("add", x.add(1, 1, 1), 0);
        CHECK.due("letter(0, 0) of one without a name", x.letter(0, 0), 0);
    }

    static void promise04_set_pointsComeAsTold() {
        ScaleNets x = Check.of("set by sum;point c at 4 0 0;point a at 0 0 0;point b at 3 0 0;");
        CHECK.due("the root is the first told", x.has(2), 0);
        CHECK.due("letter(0, 0)", x.letter(0, 0), 3);
        CHECK.due("level of a", x.point(1, 3), 2);
        CHECK.due("parent of b", x.point(2, 4), 0);
    }

    // ---- 5

    static void promise05_fault_aheadOfAnySet() {
        ScaleNets x = new ScaleNets();
        CHECK.due("fault(0)", x.fault(0), 0);
        CHECK.due("fault(1)", x.fault(1), -1);
    }

    static void promise05_fault_ofTheLatestSet() {
        ScaleNets x = new ScaleNets();
        Check.tape(x, TO_PLACE + "0 0 256;");
        x.set();
        CHECK.due("fault(0)", x.fault(0), 2);
        CHECK.due("fault(1)", x.fault(1), 26);
        Check.tape(x, Check.FOUR);
        x.set();
        CHECK.due("fault(0) without", x.fault(0), 0);
        CHECK.due("fault(1) without", x.fault(1), -1);
        x.set();
        CHECK.due("fault(0) of an empty tape", x.fault(0), 1);
        CHECK.due("fault(1) of an empty tape", x.fault(1), 0);
    }

    static void promise05_fault_staysBehindOtherCalls() {
        ScaleNets x = Check.of(Check.FOUR);
        Check.tape(x, TO_PLACE + "0 0 256;");
        x.set();
        x.named();
        x.see();
        x.on();
        x.add(1, 1, 1);
        x.undo();
        CHECK.due("fault(0)", x.fault(0), 2);
        CHECK.due("fault(1)", x.fault(1), 26);
    }

    static void promise05_fault_otherWhats() {
        ScaleNets x = new ScaleNets();
        x.set();
        CHECK.each("fault", Edges.noWhat(1), x::fault, -1);
    }

    // ---- 7

    static void promise07_letter_kFrom0To5() {
        ScaleNets x = Check.of(TO_NAME + "abcxyz at 0 0 0;");
        int[] letters = {1, 2, 3, 24, 25, 26};
        for (int k = 0; k < 6; k++) {
            CHECK.due("letter(0, " + k + ")", x.letter(0, k), letters[k]);
        }
        CHECK.each("letter(0, k)", Edges.noWhat(5), k -> x.letter(0, k), -1);
    }

    static void promise07_letter_0BehindTheName() {
        ScaleNets x = Check.of(TO_NAME + "z at 0 0 0;point abcde at 1 1 1;");
        for (int k = 1; k < 6; k++) {
            CHECK.due("letter(0, " + k + ")", x.letter(0, k), 0);
        }
        CHECK.due("letter(1, 4)", x.letter(1, 4), 5);
        CHECK.due("letter(1, 5)", x.letter(1, 5), 0);
        CHECK.due("letter(1, 6)", x.letter(1, 6), -1);
    }

    static void promise07_letter_0OfOneWithoutAName() {
        ScaleNets x = Edges.empty("sum");
        x.add(1, 1, 1);
        for (int k = 0; k < 6; k++) {
            CHECK.due("letter(0, " + k + ")", x.letter(0, k), 0);
        }
        CHECK.due("letter(0, 6)", x.letter(0, 6), -1);
        CHECK.due("letter(0, -1)", x.letter(0, -1), -1);
    }

    static void promise07_letter_ofNoPoint() {
        ScaleNets x = Check.of(Check.FOUR);
        CHECK.each("letter(p, 0)", Edges.NO_POINT_OF_FOUR, p -> x.letter(p, 0), -1);
        CHECK.due("letter(0, 0) of a new object", new ScaleNets().letter(0, 0), -1);
        ScaleNets full = Check.of(Edges.fortyPoints());
        CHECK.due("letter(39, 2) of the last", full.letter(39, 2), 10);
        CHECK.due("letter(40, 2)", full.letter(40, 2), -1);
    }

    static void promise07_letter_aNameGoesWithItsPoint() {
        ScaleNets x = Check.of(Check.FOUR);
        x.drop(1);
        CHECK.due("letter(1, 0) of one that went", x.letter(1, 0), -1);
        x.add(50, 50, 50);
        CHECK.due("letter(1, 0) of the next", x.letter(1, 0), 0);
    }

    // ---- 8

    static void promise08_named_oneAndSixLetters() {
        ScaleNets x = Check.of(TO_NAME + "q at 0 0 0;point abcdef at 1 1 1;point az at 2 2 2;");
        CHECK.due("q", named(x, "q"), 0);
        CHECK.due("abcdef", named(x, "abcdef"), 1);
        CHECK.due("az", named(x, "az"), 2);
        CHECK.due("the last of 40", named(Check.of(Edges.fortyPoints()), "xdj"), 39);
    }

    static void promise08_named_sevenLettersAreNone() {
        ScaleNets x = Check.of(TO_NAME + "abcdef at 0 0 0;");
        CHECK.due("abcdefa", named(x, "abcdefa"), -1);
        CHECK.due("abcde", named(x, "abcde"), -1);
        CHECK.due("bcdef", named(x, "bcdef"), -1);
    }

    static void promise08_named_anEmptyTapeIsNone() {
        ScaleNets x = Check.of(Check.FOUR);
        x.add(50, 50, 50);
        CHECK.due("nothing, though one has no name", named(x, ""), -1);
        CHECK.due("of a new object", new ScaleNets().named(), -1);
    }

    static void promise08_named_byteByByteNothingElse() {
        StringBuilder text = new StringBuilder("set by sum;");
        for (char name = 'a'; name <= 'z'; name++) {
            text.append("point ").append(name).append(" at 0 0 ").append((int) name).append(';');
        }
        ScaleNets x = Check.of(text.toString());
        x.add(9, 9, 9);
        for (String other : new String[] {"", "aaaaaaa", "a ", " a", "a\n", "a;", "A", "`", "{", "a`", "\u00e1", "a\u0000"}) {
            CHECK.due("named '" + other + "'", named(x, other), -1);
        }
        CHECK.due("z", named(x, "z"), 25);
        for (String own : OWN_WORDS) {
            CHECK.due("named " + own, named(x, own), -1);
        }
    }

    static void promise08_named_theTapeGoesAndNothingIsRefused() {
        ScaleNets x = Edges.rich();
        Edges.leavesAll(CHECK, "named b", x, 1, y -> named(y, "b"));
        CHECK.due("feed behind b", x.feed(0, 0, 0, 0, 0), 20);
        ScaleNets other = Edges.rich();
        Edges.leavesAll(CHECK, "named nobody", other, -1, y -> named(y, "nobody"));
        CHECK.due("feed behind nobody", other.feed(0, 0, 0, 0, 0), 20);
    }

    static void promise08_named_aNameGoesAndComesWithItsPoint() {
        ScaleNets x = Check.of(Check.FOUR);
        x.drop(2);
        CHECK.due("c that went", named(x, "c"), -1);
        x.undo();
        CHECK.due("c again", named(x, "c"), 2);
        ScaleNets forty = Check.of(Edges.fortyPoints());
        forty.drop(39);
        forty.undo();
        CHECK.due("the last of forty again", named(forty, "xdj"), 39);
        x.move(2, 50, 50, 50);
        CHECK.due("c that moved", named(x, "c"), 2);
        x.by(1);
        x.lay();
        CHECK.due("c laid anew", named(x, "c"), 2);
    }

    public static void main(String[] args) throws ReflectiveOperationException {
        CHECK.runAll(EdgesOfTextTest.class);
    }
}
