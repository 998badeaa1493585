import java.util.Arrays;

/**
 * Nets at every scale over a set of at most 40 points: levels, parents, searches that go down
 * the scales with a proof of what was not looked at, acts that can be undone, images.
 *
 * All rows are made once, in the constructor; no call makes an object.
 */
public final class ScaleNets {
    public static final int NONE = -1;

    private static final int MOST_POINTS = 40;
    private static final int TOP_LEVEL = 10;
    private static final int MEASURES = 3;
    private static final int TOP_NUMBER = 255;
    private static final int LONGEST = 999;
    private static final int NAME_LETTERS = 6;

    private static final int TAPE_ROOM = 1600;
    private static final int FED_AT_ONCE = 20;
    private static final int PROOF_ROWS = 40;
    private static final int CHANCES = 40;

    private static final int REFUSED_TAPE = 0;
    private static final int REFUSED_TEXT = 1;
    private static final int REFUSED_POINT = 2;
    private static final int REFUSED_ALL = 3;
    private static final int REFUSED_UNDO = 4;
    private static final int REFUSED_STATE = 5;
    private static final int KINDS_REFUSED = 6;

    private final Tape tape = new Tape();
    private final SetText text = new SetText(tape);
    private final Points points = new Points();
    /** What would be, or what a tape tells, is tried here so that all can stay as it is. */
    private final Points trial = new Points();
    private final History history = new History();
    private final Search nearestSearch = new Search(points, false);
    private final Search farthestSearch = new Search(points, true);
    private final Whole whole = new Whole(points);
    private final Seen seen = new Seen(points);
    private final Image written = new Image();
    private final int[] refused = new int[KINDS_REFUSED];
    private long seedNow = 1;

    public ScaleNets() {
    }

    public int feed(int a, int b, int c, int d, int e) {
        if (tape.length + FED_AT_ONCE > TAPE_ROOM) {
            return refuse(REFUSED_TAPE);
        }
        tape.putNumber(a);
        tape.putNumber(b);
        tape.putNumber(c);
        tape.putNumber(d);
        tape.putNumber(e);
        return tape.length;
    }

    public boolean end(int n) {
        if (n < 0 || n > tape.length) {
            refuse(REFUSED_TAPE);
            return false;
        }
        tape.length = n;
        return true;
    }

    public int set() {
        boolean right = text.read();
        tape.length = 0;
        if (!right) {
            return refuse(REFUSED_TEXT);
        }
        points.clear();
        points.measure = text.measure;
        for (int p = 0; p < text.count; p++) {
            points.comeAt(p, text.place[p]);
            points.name[p] = text.name[p];
        }
        history.forget();
        nearestSearch.forget();
        seen.rows = 0;
        return 1 + text.count;
    }

    public int fault(int what) {
        switch (what) {
            case 0: return text.fault;
            case 1: return text.faultPlace;
            default: return NONE;
        }
    }

    public int has(int what) {
        switch (what) {
            case 0: return points.count;
            case 1: return points.measure;
            case 2: return points.root;
            case 3: return points.greatestLevelBelowRoot();
            case 4: return seen.rows;
            case 5: return history.held;
            case 6: return (int) seedNow;
            default: return NONE;
        }
    }

    public int letter(int point, int k) {
        if (!points.isThere(point) || k < 0 || k >= NAME_LETTERS) {
            return NONE;
        }
        return (points.name[point] >> (5 * k)) & 31;
    }

    public int named() {
        int name = tape.asName();
        tape.length = 0;
        return name == NONE ? NONE : points.pointNamed(name);
    }

    public int point(int point, int what) {
        if (!points.isThere(point)) {
            return NONE;
        }
        switch (what) {
            case 0: return (points.place[point] >> 16) & TOP_NUMBER;
            case 1: return (points.place[point] >> 8) & TOP_NUMBER;
            case 2: return points.place[point] & TOP_NUMBER;
            case 3: return points.level[point];
            case 4: return points.parent[point];
            case 5: return points.childrenOf(point);
            case 6: return points.belowOf(point);
            default: return NONE;
        }
    }

    public int at(int x, int y, int z) {
        int place = placeOf(x, y, z);
        return place == NONE ? NONE : points.pointAt(place);
    }

    public int child(int point, int k) {
        return points.isThere(point) && k >= 0 ? points.kthChild(point, k) : NONE;
    }

    public int far(int one, int other) {
        return points.isThere(one) && points.isThere(other) ? points.farOfTwo(one, other) : NONE;
    }

    // ---- nets

    public int net(int level, int k) {
        if (!isLevel(level) || k < NONE) {
            return NONE;
        }
        return k == NONE ? points.netSize(level) : points.kthOfNet(level, k);
    }

    public int above(int point, int level) {
        return points.isThere(point) && isLevel(level) ? points.aboveAt(point, level) : NONE;
    }

    public int loose(int level, int what) {
        if (!isLevel(level)) {
            return NONE;
        }
        switch (what) {
            case 0: return whole.leastFarInNet(level);
            case 1: return whole.mostFarFromAbove(level);
            case 2: return whole.mostCrowded(level);
            default: return NONE;
        }
    }

    public int most(int what) {
        int busiest = points.withMostChildren();
        if (busiest == NONE) {
            return NONE;
        }
        switch (what) {
            case 0: return points.childrenOf(busiest);
            case 1: return busiest;
            default: return NONE;
        }
    }

    // ---- searched

    public int seek(int x, int y, int z) {
        int place = placeOf(x, y, z);
        if (place == NONE || points.root == NONE) {
            return NONE;
        }
        nearestSearch.goDown(place);
        return nearestSearch.best;
    }

    public int found(int what) {
        if (nearestSearch.best == NONE) {
            return NONE;
        }
        switch (what) {
            case 0: return nearestSearch.bestFar;
            case 1: return nearestSearch.lookedAt;
            case 2: return nearestSearch.prunedRows;
            case 3: return nearestSearch.sparedByAll();
            default: return NONE;
        }
    }

    public int pruned(int k, int what) {
        if (k < 0 || k >= nearestSearch.prunedRows) {
            return NONE;
        }
        switch (what) {
            case 0: return nearestSearch.prunedPoint[k];
            case 1: return nearestSearch.prunedAt[k];
            case 2: return nearestSearch.prunedFar[k];
            case 3: return nearestSearch.prunedSpares[k];
            default: return NONE;
        }
    }

    public int proves(int x, int y, int z, int d) {
        int place = placeOf(x, y, z);
        int spared = place != NONE && isLength(d) ? sparedByProof(place, d) : NONE;
        tape.length = 0;
        return spared;
    }

    /** How many POINTS the rows on the tape spare; NONE if the rows are no PROOF. */
    private int sparedByProof(int place, int d) {
        int rows = tape.length / 2;
        if (tape.length % 2 != 0 || rows > PROOF_ROWS || !proofRowsHold(rows, place, d)) {
            return NONE;
        }
        int spared = 0;
        for (int p = 0; p < MOST_POINTS; p++) {
            if (points.isThere(p)) {
                if (isSparedByRow(p, rows)) {
                    spared++;
                } else if (points.farToPlace(p, place) < d) {
                    return NONE;
                }
            }
        }
        return spared;
    }

    private boolean proofRowsHold(int rows, int place, int d) {
        for (int row = 0; row < rows; row++) {
            int p = tape.byteAt(2 * row);
            int k = tape.byteAt(2 * row + 1);
            if (!points.isThere(p) || k < 1 || k > TOP_LEVEL
                    || points.farToPlace(p, place) - (1 << k) < d) {
                return false;
            }
        }
        return true;
    }

    private boolean isSparedByRow(int p, int rows) {
        for (int row = 0; row < rows; row++) {
            if (points.isSpared(p, tape.byteAt(2 * row), tape.byteAt(2 * row + 1))) {
                return true;
            }
        }
        return false;
    }

    public int nth(int x, int y, int z, int k) {
        int place = placeOf(x, y, z);
        return place == NONE ? NONE : points.kthNearest(place, k);
    }

    public int within(int x, int y, int z, int d) {
        int place = placeOf(x, y, z);
        return place == NONE || !isLength(d) ? NONE : points.countWithin(place, d);
    }

    public int remote(int x, int y, int z, int what) {
        int place = placeOf(x, y, z);
        if (place == NONE || points.root == NONE) {
            return NONE;
        }
        farthestSearch.goDown(place);
        switch (what) {
            case 0: return farthestSearch.best;
            case 1: return farthestSearch.bestFar;
            case 2: return farthestSearch.lookedAt;
            default: return NONE;
        }
    }

    // ---- all together

    public int centers(int n, int what) {
        if (n < 1 || n > points.count) {
            return NONE;
        }
        whole.thinOut();
        switch (what) {
            case 0: return whole.farFromCenter(whole.farthestFromCenter(n), n);
            case 1: return whole.farthestFromCenter(n);
            case 2: return whole.mostOfOneCenter(n);
            default: return NONE;
        }
    }

    public int center(int point, int n) {
        if (!points.isThere(point) || n < 1 || n > points.count) {
            return NONE;
        }
        whole.thinOut();
        return whole.centerOf(point, n);
    }

    public int pair(int what) {
        if (points.count < 2 || what < 0 || what > 5) {
            return NONE;
        }
        int found = what < 3 ? whole.closestPair() : whole.widestPair();
        return Pair.part(found, what % 3);
    }

    public int thin(int k) {
        if (k < 0 || k >= points.count) {
            return NONE;
        }
        whole.thinOut();
        return whole.thinned[k];
    }

    public int link(int k, int what) {
        if (k == NONE) {
            whole.joinAll();
            return whole.allLinksFar();
        }
        if (k < 0 || k >= points.count - 1 || what < 0 || what > 2) {
            return NONE;
        }
        whole.joinAll();
        return Pair.part(whole.links[k], what);
    }

    public int group(int point, int length) {
        if (!points.isThere(point) || !isLength(length)) {
            return NONE;
        }
        whole.groupBy(length);
        return whole.leastOfGroup[point];
    }

    public int groups(int length) {
        if (!isLength(length)) {
            return NONE;
        }
        whole.groupBy(length);
        return whole.countGroups();
    }

    // ---- what would be

    public int comes(int x, int y, int z, int what) {
        int place = placeOf(x, y, z);
        if (!canCome(place) || what < 0 || what > 1) {
            return NONE;
        }
        if (points.root == NONE) {
            return what == 0 ? TOP_LEVEL : NONE;
        }
        int level = points.levelFrom(0, place);
        return what == 0 ? level : points.nearestOfNet(level + 1, place);
    }

    public int goes(int point, int what) {
        if (!points.isThere(point)) {
            return NONE;
        }
        trial.copyFrom(points);
        trial.leave(point);
        switch (what) {
            case 0: return points.otherParentsIn(trial);
            case 1: return points.otherLevelsIn(trial);
            case 2: return trial.root;
            default: return NONE;
        }
    }

    public int anew(int what) {
        trial.copyFrom(points);
        trial.layAll();
        switch (what) {
            case 0: return points.otherLevelsIn(trial);
            case 1: return points.otherParentsIn(trial);
            default: return NONE;
        }
    }

    // ---- what was seen

    public int see() {
        boolean right = seen.takeFrom(tape);
        tape.length = 0;
        return right ? seen.rows : refuse(REFUSED_TEXT);
    }

    public int fits(int k) {
        if (points.measure == NONE || k < NONE) {
            return NONE;
        }
        return k == NONE ? seen.countFits() : seen.kthFit(k);
    }

    public int tells(int what) {
        if (points.measure == NONE || points.count < 2 || seen.countFits() == 0) {
            return NONE;
        }
        return what < 0 || what > 2 ? NONE : Pair.part(seen.tellingPair(), what);
    }

    // ---- acts

    public int add(int x, int y, int z) {
        int place = placeOf(x, y, z);
        if (!canCome(place)) {
            return refuse(REFUSED_POINT);
        }
        history.keep(points);
        int p = points.leastFree();
        points.comeAt(p, place);
        return p;
    }

    public boolean drop(int point) {
        if (!points.isThere(point)) {
            refuse(REFUSED_POINT);
            return false;
        }
        history.keep(points);
        points.leave(point);
        return true;
    }

    public boolean move(int point, int x, int y, int z) {
        int place = placeOf(x, y, z);
        if (!points.isThere(point) || place == NONE || points.pointAt(place) != NONE) {
            refuse(REFUSED_POINT);
            return false;
        }
        history.keep(points);
        int name = points.name[point];
        points.leave(point);
        points.comeAt(point, place);
        points.name[point] = name;
        return true;
    }

    public boolean by(int measure) {
        if (points.measure == NONE || !isMeasure(measure) || measure == points.measure) {
            refuse(REFUSED_ALL);
            return false;
        }
        history.keep(points);
        points.measure = measure;
        points.layAll();
        return true;
    }

    public int lay() {
        if (points.count == 0) {
            return refuse(REFUSED_ALL);
        }
        history.keep(points);
        trial.copyFrom(points);
        points.layAll();
        return trial.otherLevelsIn(points);
    }

    public int chance(int n) {
        if (n < 1 || n > CHANCES || points.measure == NONE) {
            return refuse(REFUSED_ALL);
        }
        history.keep(points);
        for (int i = 0; i < n; i++) {
            chanceOnce();
        }
        return points.count;
    }

    private void chanceOnce() {
        if (draw(3) < 2) {
            int x = draw(TOP_NUMBER + 1);
            int y = draw(TOP_NUMBER + 1);
            int z = draw(TOP_NUMBER + 1);
            int place = placeOf(x, y, z);
            if (canCome(place)) {
                points.comeAt(points.leastFree(), place);
            }
        } else {
            int k = draw(Math.max(1, points.count));
            points.leave(points.kthOfNet(0, k));
        }
    }

    private int draw(int m) {
        seedNow = (1103515245L * seedNow + 12345L) & 0x7fffffffL;
        return m < 1 ? 0 : (int) ((seedNow >> 6) % m);
    }

    public boolean undo() {
        if (history.held == 0) {
            refuse(REFUSED_UNDO);
            return false;
        }
        history.giveBack(points);
        return true;
    }

    public boolean seed(int seed) {
        if (seed < 0) {
            refuse(REFUSED_STATE);
            return false;
        }
        seedNow = seed;
        return true;
    }

    // ---- images, refusals

    public int image() {
        if (points.measure == NONE) {
            return NONE;
        }
        written.write(points);
        return written.length;
    }

    public int octet(int k) {
        return k < 0 || k >= written.length ? NONE : written.bytes[k];
    }

    public boolean on() {
        boolean right = points.measure != NONE && Image.readInto(trial, tape);
        tape.length = 0;
        if (!right) {
            refuse(REFUSED_STATE);
            return false;
        }
        points.copyFrom(trial);
        history.forget();
        return true;
    }

    public int status(int what) {
        return what < 0 || what >= KINDS_REFUSED ? NONE : refused[what];
    }

    private int refuse(int kind) {
        if (kind >= 0 && kind < KINDS_REFUSED) {
            refused[kind]++;
        }
        return NONE;
    }

    private boolean canCome(int place) {
        return points.measure != NONE && place != NONE && points.count < MOST_POINTS
                && points.pointAt(place) == NONE;
    }

    private static boolean isLevel(int level) {
        return level >= 0 && level <= TOP_LEVEL;
    }

    private static boolean isLength(int length) {
        return length >= 0 && length <= LONGEST;
    }

    private static boolean isMeasure(int measure) {
        return measure >= 0 && measure < MEASURES;
    }

    private static boolean isCoordinate(int number) {
        return number >= 0 && number <= TOP_NUMBER;
    }

    private static boolean isLetter(int sign) {
        return sign >= 'a' && sign <= 'z';
    }

    private static boolean isDigit(int sign) {
        return sign >= '0' && sign <= '9';
    }

    /** A PLACE as one int, eight bits a number, so that unlike bits and like places are seen at once. */
    private static int placeOf(int x, int y, int z) {
        return isCoordinate(x) && isCoordinate(y) && isCoordinate(z) ? x << 16 | y << 8 | z : NONE;
    }

    /** The bytes that were fed. A call that takes the tape sets its length to 0. */
    private static final class Tape {
        final int[] bytes = new int[TAPE_ROOM];
        int length;

        void putNumber(int number) {
            for (int shift = 24; shift >= 0; shift -= 8) {
                if (length < TAPE_ROOM) {
                    bytes[length] = (number >> shift) & 255;
                    length++;
                }
            }
        }

        int byteAt(int i) {
            return i < 0 || i >= length || i >= TAPE_ROOM ? NONE : bytes[i];
        }

        /** The whole tape as a NAME (five bits a letter, the first lowest); NONE if it is none. */
        int asName() {
            if (length < 1 || length > NAME_LETTERS) {
                return NONE;
            }
            int name = 0;
            for (int k = 0; k < length; k++) {
                int sign = byteAt(k);
                if (!isLetter(sign)) {
                    return NONE;
                }
                name |= (sign - 'a' + 1) << (5 * k);
            }
            return name;
        }
    }

    /** Reads the text of a SET; what it told stands in the rows, or its FAULT in the two fields. */
    private static final class SetText {
        private static final int FAULT_FORM = 1;
        private static final int FAULT_NUMBER = 2;
        private static final int FAULT_NAME = 3;
        private static final int FAULT_PLACE = 4;
        private static final int FAULT_CROWD = 5;
        private static final int NUMBER_DIGITS = 3;

        private final Tape tape;
        final int[] place = new int[MOST_POINTS];
        final int[] name = new int[MOST_POINTS];
        int measure;
        int count;
        int fault;
        int faultPlace = NONE;
        private int next;
        private int numberStart;

        SetText(Tape tape) {
            this.tape = tape;
        }

        boolean read() {
            next = 0;
            count = 0;
            fault = 0;
            faultPlace = NONE;
            if (!readMeasure()) {
                return false;
            }
            // One turn more than there may be points: the word of a 41st is a fault of its own.
            for (int turn = 0; turn <= MOST_POINTS && isMoreAhead(); turn++) {
                if (!readPoint()) {
                    return false;
                }
            }
            return true;
        }

        private boolean readMeasure() {
            if (!takeWord("set") || !takeWord("by")) {
                return false;
            }
            skipBlanks();
            if (spells("sum")) {
                measure = 0;
                return takeWord("sum") && takeSemicolon();
            }
            if (spells("most")) {
                measure = 1;
                return takeWord("most") && takeSemicolon();
            }
            measure = 2;
            return takeWord("bits") && takeSemicolon();
        }

        private boolean readPoint() {
            if (count >= MOST_POINTS) {
                return wrong(spells("point") ? FAULT_CROWD : FAULT_FORM, next);
            }
            if (!takeWord("point") || !takeName() || !takeWord("at") || !takePlace() || !takeSemicolon()) {
                return false;
            }
            count++;
            return true;
        }

        private boolean takeName() {
            skipBlanks();
            int start = next;
            if (!isLetter(tape.byteAt(start)) || isOwnWord()) {
                return wrong(FAULT_FORM, start);
            }
            int packed = 0;
            for (int k = 0; k < NAME_LETTERS && isLetter(tape.byteAt(next)); k++) {
                packed |= (tape.byteAt(next) - 'a' + 1) << (5 * k);
                next++;
            }
            if (isLetter(tape.byteAt(next))) {
                return wrong(FAULT_FORM, next);
            }
            if (isAmong(name, packed)) {
                return wrong(FAULT_NAME, start);
            }
            name[count] = packed;
            return true;
        }

        private boolean takePlace() {
            int x = takeNumber();
            int start = numberStart;
            int y = x == NONE ? NONE : takeNumber();
            int z = y == NONE ? NONE : takeNumber();
            if (z == NONE) {
                return false;
            }
            int packed = placeOf(x, y, z);
            if (isAmong(place, packed)) {
                return wrong(FAULT_PLACE, start);
            }
            place[count] = packed;
            return true;
        }

        /** A number 0 .. 255, at numberStart; NONE with a FAULT. */
        private int takeNumber() {
            int behind = next;
            skipBlanks();
            numberStart = next;
            // What stands ahead of a number is a word or a number, so a blank is needed between.
            if (next == behind || !isDigit(tape.byteAt(next))) {
                wrong(FAULT_FORM, next);
                return NONE;
            }
            int value = 0;
            for (int k = 0; k < NUMBER_DIGITS && isDigit(tape.byteAt(next)); k++) {
                value = 10 * value + tape.byteAt(next) - '0';
                next++;
            }
            if (isDigit(tape.byteAt(next))) {
                wrong(FAULT_FORM, next);
                return NONE;
            }
            if (value > TOP_NUMBER) {
                wrong(FAULT_NUMBER, numberStart);
                return NONE;
            }
            return value;
        }

        private boolean isAmong(int[] row, int packed) {
            for (int i = 0; i < count && i < row.length; i++) {
                if (row[i] == packed) {
                    return true;
                }
            }
            return false;
        }

        private boolean takeWord(String word) {
            skipBlanks();
            if (!spells(word)) {
                return wrong(FAULT_FORM, next);
            }
            next += word.length();
            return true;
        }

        private boolean takeSemicolon() {
            skipBlanks();
            if (tape.byteAt(next) != ';') {
                return wrong(FAULT_FORM, next);
            }
            next++;
            return true;
        }

        private boolean isMoreAhead() {
            skipBlanks();
            return next < tape.length;
        }

        private void skipBlanks() {
            while (next < tape.length && (tape.byteAt(next) == 32 || tape.byteAt(next) == 10)) {
                next++;
            }
        }

        private boolean isOwnWord() {
            return spells("set") || spells("by") || spells("sum") || spells("most") || spells("bits")
                    || spells("point") || spells("at");
        }

        /** Whether the letters from here on, all of them up to another sign, are this word. */
        private boolean spells(String word) {
            for (int i = 0; i < word.length(); i++) {
                if (tape.byteAt(next + i) != word.charAt(i)) {
                    return false;
                }
            }
            return !isLetter(tape.byteAt(next + word.length()));
        }

        private boolean wrong(int kind, int where) {
            fault = kind;
            faultPlace = where;
            return false;
        }
    }

    /** Two POINTS and their FAR as one int that orders pairs by FAR, the less number, the other one. */
    private static final class Pair {
        static final int LESS = 0;
        static final int OTHER = 1;
        static final int FAR = 2;

        static int packed(int one, int other, int far) {
            return far << 12 | Math.min(one, other) << 6 | Math.max(one, other);
        }

        /** 0 the less number, 1 the other one, 2 FAR. */
        static int part(int pair, int what) {
            switch (what) {
                case LESS: return (pair >> 6) & 63;
                case OTHER: return pair & 63;
                default: return pair >> 12;
            }
        }
    }

    /** The POINTS with their LEVELS and PARENTS, and how they come, go and rise. */
    private static final class Points {
        /** LEVELS below 0: nobody has the number, or its POINT waits to come anew. */
        private static final int ABSENT = -1;
        private static final int WAITING = -2;

        final int[] place = new int[MOST_POINTS];
        final int[] level = new int[MOST_POINTS];
        final int[] parent = new int[MOST_POINTS];
        final int[] name = new int[MOST_POINTS];
        int measure = NONE;
        int root = NONE;
        int count;

        Points() {
            Arrays.fill(level, ABSENT);
            Arrays.fill(parent, NONE);
        }

        void clear() {
            Arrays.fill(level, ABSENT);
            Arrays.fill(parent, NONE);
            Arrays.fill(name, 0);
            measure = NONE;
            root = NONE;
            count = 0;
        }

        void copyFrom(Points other) {
            System.arraycopy(other.place, 0, place, 0, MOST_POINTS);
            System.arraycopy(other.level, 0, level, 0, MOST_POINTS);
            System.arraycopy(other.parent, 0, parent, 0, MOST_POINTS);
            System.arraycopy(other.name, 0, name, 0, MOST_POINTS);
            measure = other.measure;
            root = other.root;
            count = other.count;
        }

        boolean isThere(int p) {
            return p >= 0 && p < MOST_POINTS && level[p] >= 0;
        }

        static int farBy(int measure, int onePlace, int otherPlace) {
            if (measure == 2) {
                return Integer.bitCount(onePlace ^ otherPlace);
            }
            int dx = Math.abs((onePlace >> 16 & 255) - (otherPlace >> 16 & 255));
            int dy = Math.abs((onePlace >> 8 & 255) - (otherPlace >> 8 & 255));
            int dz = Math.abs((onePlace & 255) - (otherPlace & 255));
            return measure == 0 ? dx + dy + dz : Math.max(dx, Math.max(dy, dz));
        }

        /** Of POINTS that are there. */
        int farOfTwo(int p, int q) {
            return farBy(measure, place[p], place[q]);
        }

        int farToPlace(int p, int where) {
            return farBy(measure, place[p], where);
        }

        int pointAt(int where) {
            for (int p = 0; p < MOST_POINTS; p++) {
                if (level[p] >= 0 && place[p] == where) {
                    return p;
                }
            }
            return NONE;
        }

        int pointNamed(int wanted) {
            for (int p = 0; p < MOST_POINTS; p++) {
                if (level[p] >= 0 && name[p] == wanted) {
                    return p;
                }
            }
            return NONE;
        }

        int leastFree() {
            for (int p = 0; p < MOST_POINTS; p++) {
                if (level[p] < 0) {
                    return p;
                }
            }
            return NONE;
        }

        int nearestOfNet(int k, int where) {
            int nearest = NONE;
            int least = 0;
            for (int p = 0; p < MOST_POINTS; p++) {
                if (level[p] >= k) {
                    int far = farBy(measure, place[p], where);
                    if (nearest == NONE || far < least) {
                        nearest = p;
                        least = far;
                    }
                }
            }
            return nearest;
        }

        /**
         * The LEVEL, low or higher, below the first whose NET has a POINT nearer than 2 to that LEVEL:
         * the LEVEL of one that comes (from 0) or rises (from its own). The ROOT is near enough at 10.
         */
        int levelFrom(int low, int where) {
            for (int k = low + 1; k < TOP_LEVEL; k++) {
                int nearest = nearestOfNet(k, where);
                if (nearest != NONE && farToPlace(nearest, where) < 1 << k) {
                    return k - 1;
                }
            }
            return TOP_LEVEL - 1;
        }

        void comeAt(int p, int where) {
            if (p >= 0 && p < MOST_POINTS) {
                settle(p, 0, where);
                place[p] = where;
                count++;
            }
        }

        /** Gives p, that comes or was left by its PARENT, its LEVEL (low or a higher one) and PARENT. */
        private void settle(int p, int low, int where) {
            if (root == NONE) {
                root = p;
                level[p] = TOP_LEVEL;
                parent[p] = NONE;
            } else {
                int settled = levelFrom(low, where);
                parent[p] = nearestOfNet(settled + 1, where);
                level[p] = settled;
            }
        }

        void leave(int p) {
            if (!isThere(p)) {
                return;
            }
            level[p] = ABSENT;
            parent[p] = NONE;
            name[p] = 0;
            count--;
            if (root == p) {
                root = NONE;
            }
            // One that is taken has another PARENT then, so it is not taken twice.
            for (int k = TOP_LEVEL - 1; k >= 0; k--) {
                for (int q = 0; q < MOST_POINTS; q++) {
                    if (level[q] == k && parent[q] == p) {
                        settle(q, k, place[q]);
                    }
                }
            }
        }

        void layAll() {
            for (int p = 0; p < MOST_POINTS; p++) {
                if (level[p] >= 0) {
                    level[p] = WAITING;
                }
            }
            root = NONE;
            count = 0;
            for (int p = 0; p < MOST_POINTS; p++) {
                if (level[p] == WAITING) {
                    comeAt(p, place[p]);
                }
            }
        }

        int otherLevelsIn(Points then) {
            int others = 0;
            for (int p = 0; p < MOST_POINTS; p++) {
                if (level[p] >= 0 && then.level[p] >= 0 && level[p] != then.level[p]) {
                    others++;
                }
            }
            return others;
        }

        int otherParentsIn(Points then) {
            int others = 0;
            for (int p = 0; p < MOST_POINTS; p++) {
                if (level[p] >= 0 && then.level[p] >= 0 && parent[p] != then.parent[p]) {
                    others++;
                }
            }
            return others;
        }

        int greatestLevelBelowRoot() {
            int greatest = NONE;
            for (int p = 0; p < MOST_POINTS; p++) {
                if (p != root && level[p] > greatest) {
                    greatest = level[p];
                }
            }
            return greatest;
        }

        int netSize(int k) {
            int size = 0;
            for (int p = 0; p < MOST_POINTS; p++) {
                if (level[p] >= k) {
                    size++;
                }
            }
            return size;
        }

        int kthOfNet(int low, int k) {
            int left = k;
            for (int p = 0; p < MOST_POINTS; p++) {
                if (level[p] >= low) {
                    if (left == 0) {
                        return p;
                    }
                    left--;
                }
            }
            return NONE;
        }

        int childrenOf(int p) {
            int children = 0;
            for (int q = 0; q < MOST_POINTS; q++) {
                if (level[q] >= 0 && parent[q] == p) {
                    children++;
                }
            }
            return children;
        }

        int kthChild(int p, int k) {
            int left = k;
            for (int low = TOP_LEVEL - 1; low >= 0; low--) {
                for (int q = 0; q < MOST_POINTS; q++) {
                    if (level[q] == low && parent[q] == p) {
                        if (left == 0) {
                            return q;
                        }
                        left--;
                    }
                }
            }
            return NONE;
        }

        int withMostChildren() {
            int busiest = NONE;
            int most = NONE;
            for (int p = 0; p < MOST_POINTS; p++) {
                if (level[p] >= 0 && childrenOf(p) > most) {
                    busiest = p;
                    most = childrenOf(p);
                }
            }
            return busiest;
        }

        int belowOf(int p) {
            int below = 0;
            for (int q = 0; q < MOST_POINTS; q++) {
                if (branchTo(q, p) != NONE) {
                    below++;
                }
            }
            return below;
        }

        /** The CHILD of p that is q, or that q is BELOW of; NONE if q is not BELOW p. */
        private int branchTo(int q, int p) {
            int up = q;
            for (int step = 0; step <= TOP_LEVEL && isThere(up); step++) {
                if (parent[up] == p) {
                    return up;
                }
                up = parent[up];
            }
            return NONE;
        }

        /** Whether q is SPARED by p as one PRUNED at k. */
        boolean isSpared(int q, int p, int k) {
            int branch = isThere(p) ? branchTo(q, p) : NONE;
            return branch != NONE && level[branch] < k - 1;
        }

        int countSpared(int p, int k) {
            int spared = 0;
            for (int q = 0; q < MOST_POINTS; q++) {
                if (isSpared(q, p, k)) {
                    spared++;
                }
            }
            return spared;
        }

        int aboveAt(int p, int low) {
            int up = p;
            for (int step = 0; step <= TOP_LEVEL && isThere(up); step++) {
                if (level[up] >= low) {
                    return up;
                }
                up = parent[up];
            }
            return NONE;
        }

        int kthNearest(int where, int k) {
            for (int p = 0; p < MOST_POINTS; p++) {
                if (level[p] >= 0 && countAheadOf(p, where) == k) {
                    return p;
                }
            }
            return NONE;
        }

        private int countAheadOf(int p, int where) {
            int far = farToPlace(p, where);
            int ahead = 0;
            for (int q = 0; q < MOST_POINTS; q++) {
                if (level[q] >= 0) {
                    int other = farToPlace(q, where);
                    if (other < far || other == far && q < p) {
                        ahead++;
                    }
                }
            }
            return ahead;
        }

        int countWithin(int where, int d) {
            int inside = 0;
            for (int p = 0; p < MOST_POINTS; p++) {
                if (level[p] >= 0 && farToPlace(p, where) <= d) {
                    inside++;
                }
            }
            return inside;
        }
    }

    /** The states ahead of the last 20 ACTS. */
    private static final class History {
        private static final int ROOM = 20;

        private final Points[] kept = new Points[ROOM];
        private int next;
        int held;

        History() {
            for (int i = 0; i < ROOM; i++) {
                kept[i] = new Points();
            }
        }

        void keep(Points points) {
            kept[next].copyFrom(points);
            next = next + 1 < ROOM ? next + 1 : 0;
            held = Math.min(ROOM, held + 1);
        }

        void giveBack(Points points) {
            if (held > 0) {
                next = next > 0 ? next - 1 : ROOM - 1;
                points.copyFrom(kept[next]);
                held--;
            }
        }

        void forget() {
            held = 0;
        }
    }

    /**
     * A SEARCH or a LONG SEARCH, and what it found. The long one is the same search by FAR with
     * its sign turned: FAR and 2^k not above BEST's is -FAR less 2^k not below -BEST's.
     */
    private static final class Search {
        private final Points points;
        private final int sign;
        private final int[] far = new int[MOST_POINTS];
        private final boolean[] goingOn = new boolean[MOST_POINTS];
        final int[] prunedPoint = new int[MOST_POINTS];
        final int[] prunedAt = new int[MOST_POINTS];
        final int[] prunedFar = new int[MOST_POINTS];
        final int[] prunedSpares = new int[MOST_POINTS];
        int prunedRows;
        int lookedAt;
        int best = NONE;
        int bestFar;

        Search(Points points, boolean isLong) {
            this.points = points;
            this.sign = isLong ? -1 : 1;
        }

        void forget() {
            best = NONE;
            lookedAt = 0;
            prunedRows = 0;
        }

        void goDown(int where) {
            forget();
            for (int p = 0; p < MOST_POINTS; p++) {
                goingOn[p] = false;
            }
            lookAt(points.root, where);
            for (int k = TOP_LEVEL; k >= 1; k--) {
                lookAtChildren(k - 1, where);
                leaveOff(k);
            }
        }

        private void lookAt(int p, int where) {
            if (!points.isThere(p)) {
                return;
            }
            far[p] = points.farToPlace(p, where);
            goingOn[p] = true;
            lookedAt++;
            int ahead = sign * (far[p] - bestFar);
            if (best == NONE || ahead < 0 || ahead == 0 && p < best) {
                best = p;
                bestFar = far[p];
            }
        }

        private void lookAtChildren(int level, int where) {
            for (int q = 0; q < MOST_POINTS; q++) {
                if (points.level[q] == level) {
                    int parent = points.parent[q];
                    if (points.isThere(parent) && goingOn[parent]) {
                        lookAt(q, where);
                    }
                }
            }
        }

        private void leaveOff(int k) {
            for (int p = 0; p < MOST_POINTS; p++) {
                if (goingOn[p] && sign * far[p] - (1 << k) >= sign * bestFar) {
                    goingOn[p] = false;
                    tellPruned(p, k);
                }
            }
        }

        private void tellPruned(int p, int k) {
            int spares = points.countSpared(p, k);
            if (spares > 0 && prunedRows < MOST_POINTS) {
                prunedPoint[prunedRows] = p;
                prunedAt[prunedRows] = k;
                prunedFar[prunedRows] = far[p];
                prunedSpares[prunedRows] = spares;
                prunedRows++;
            }
        }

        /** No POINT is SPARED by two of them: those BELOW one that goes on no more are not looked at. */
        int sparedByAll() {
            int spared = 0;
            for (int row = 0; row < prunedRows; row++) {
                spared += prunedSpares[row];
            }
            return spared;
        }
    }

    /** What is asked of all POINTS together. */
    private static final class Whole {
        private static final int BEYOND_ALL = 0x7fffffff;

        private final Points points;
        final int[] thinned = new int[MOST_POINTS];
        final int[] links = new int[MOST_POINTS];
        final int[] leastOfGroup = new int[MOST_POINTS];
        private final int[] leastFar = new int[MOST_POINTS];
        private final int[] nearestPair = new int[MOST_POINTS];
        private final int[] ofCenter = new int[MOST_POINTS];
        private final boolean[] taken = new boolean[MOST_POINTS];
        private int linked;

        Whole(Points points) {
            this.points = points;
        }

        int leastFarInNet(int k) {
            int least = NONE;
            for (int p = 0; p < MOST_POINTS; p++) {
                for (int q = p + 1; q < MOST_POINTS; q++) {
                    if (points.level[p] >= k && points.level[q] >= k) {
                        int far = points.farOfTwo(p, q);
                        least = least == NONE ? far : Math.min(least, far);
                    }
                }
            }
            return least;
        }

        int mostFarFromAbove(int k) {
            int most = NONE;
            for (int p = 0; p < MOST_POINTS; p++) {
                if (points.isThere(p)) {
                    int above = points.aboveAt(p, k);
                    if (points.isThere(above)) {
                        most = Math.max(most, points.farOfTwo(p, above));
                    }
                }
            }
            return most;
        }

        int mostCrowded(int k) {
            int most = NONE;
            for (int p = 0; p < MOST_POINTS; p++) {
                if (points.level[p] >= k) {
                    most = Math.max(most, crowdOf(p, Math.max(0, k - 1), 1 << (k + 1)));
                }
            }
            return most;
        }

        private int crowdOf(int p, int k, int reach) {
            int crowd = 0;
            for (int q = 0; q < MOST_POINTS; q++) {
                if (points.level[q] >= k && points.farOfTwo(p, q) < reach) {
                    crowd++;
                }
            }
            return crowd;
        }

        void thinOut() {
            int next = points.root;
            for (int p = 0; p < MOST_POINTS; p++) {
                taken[p] = false;
                leastFar[p] = BEYOND_ALL;
            }
            for (int i = 0; i < points.count && i < MOST_POINTS && points.isThere(next); i++) {
                thinned[i] = next;
                taken[next] = true;
                for (int p = 0; p < MOST_POINTS; p++) {
                    if (points.isThere(p)) {
                        leastFar[p] = Math.min(leastFar[p], points.farOfTwo(p, next));
                    }
                }
                next = farthestNotTaken();
            }
        }

        private int farthestNotTaken() {
            int farthest = NONE;
            for (int p = 0; p < MOST_POINTS; p++) {
                if (points.isThere(p) && !taken[p]
                        && (farthest == NONE || leastFar[p] > leastFar[farthest])) {
                    farthest = p;
                }
            }
            return farthest;
        }

        /** These ask for thinOut() ahead, and for n from 1 to the number of POINTS. */
        int centerOf(int p, int n) {
            int center = NONE;
            int least = 0;
            for (int i = 0; i < n && i < MOST_POINTS; i++) {
                int far = points.farOfTwo(p, thinned[i]);
                if (center == NONE || far < least || far == least && thinned[i] < center) {
                    center = thinned[i];
                    least = far;
                }
            }
            return center;
        }

        int farFromCenter(int p, int n) {
            if (!points.isThere(p)) {
                return NONE;
            }
            int center = centerOf(p, n);
            return points.isThere(center) ? points.farOfTwo(p, center) : NONE;
        }

        int farthestFromCenter(int n) {
            int farthest = NONE;
            int most = NONE;
            for (int p = 0; p < MOST_POINTS; p++) {
                int far = farFromCenter(p, n);
                if (far > most) {
                    farthest = p;
                    most = far;
                }
            }
            return farthest;
        }

        int mostOfOneCenter(int n) {
            Arrays.fill(ofCenter, 0);
            int most = 0;
            for (int p = 0; p < MOST_POINTS; p++) {
                int center = points.isThere(p) ? centerOf(p, n) : NONE;
                if (points.isThere(center)) {
                    ofCenter[center]++;
                    most = Math.max(most, ofCenter[center]);
                }
            }
            return most;
        }

        int closestPair() {
            int closest = NONE;
            for (int p = 0; p < MOST_POINTS; p++) {
                for (int q = p + 1; q < MOST_POINTS; q++) {
                    if (points.isThere(p) && points.isThere(q)) {
                        int pair = Pair.packed(p, q, points.farOfTwo(p, q));
                        closest = closest == NONE ? pair : Math.min(closest, pair);
                    }
                }
            }
            return closest;
        }

        int widestPair() {
            int widest = NONE;
            int most = NONE;
            for (int p = 0; p < MOST_POINTS; p++) {
                for (int q = p + 1; q < MOST_POINTS; q++) {
                    if (points.isThere(p) && points.isThere(q) && points.farOfTwo(p, q) > most) {
                        most = points.farOfTwo(p, q);
                        widest = Pair.packed(p, q, most);
                    }
                }
            }
            return widest;
        }

        /**
         * The LINKS, by growing one tree: as no two pairs are alike in their order, the tree of
         * least pairs is one alone, and its pairs in order are those that join one after another.
         */
        void joinAll() {
            linked = 0;
            for (int p = 0; p < MOST_POINTS; p++) {
                taken[p] = false;
                nearestPair[p] = BEYOND_ALL;
            }
            int next = points.root;
            for (int i = 0; i < points.count && points.isThere(next); i++) {
                if (i > 0) {
                    putLink(nearestPair[next]);
                }
                taken[next] = true;
                next = growFrom(next);
            }
        }

        private int growFrom(int last) {
            int nearest = NONE;
            for (int p = 0; p < MOST_POINTS; p++) {
                if (points.isThere(p) && !taken[p]) {
                    int pair = Pair.packed(p, last, points.farOfTwo(p, last));
                    nearestPair[p] = Math.min(nearestPair[p], pair);
                    if (nearest == NONE || nearestPair[p] < nearestPair[nearest]) {
                        nearest = p;
                    }
                }
            }
            return nearest;
        }

        private void putLink(int pair) {
            if (linked >= MOST_POINTS) {
                return;
            }
            int at = linked;
            for (; at > 0 && links[at - 1] > pair; at--) {
                links[at] = links[at - 1];
            }
            links[at] = pair;
            linked++;
        }

        int allLinksFar() {
            int all = 0;
            for (int i = 0; i < linked; i++) {
                all += Pair.part(links[i], Pair.FAR);
            }
            return all;
        }

        void groupBy(int length) {
            joinAll();
            for (int p = 0; p < MOST_POINTS; p++) {
                leastOfGroup[p] = p;
            }
            for (int i = 0; i < linked; i++) {
                if (Pair.part(links[i], Pair.FAR) <= length) {
                    joinGroups(Pair.part(links[i], Pair.LESS), Pair.part(links[i], Pair.OTHER));
                }
            }
        }

        private void joinGroups(int one, int other) {
            if (one >= MOST_POINTS || other >= MOST_POINTS) {
                return;
            }
            int least = Math.min(leastOfGroup[one], leastOfGroup[other]);
            int gone = Math.max(leastOfGroup[one], leastOfGroup[other]);
            for (int p = 0; p < MOST_POINTS; p++) {
                if (leastOfGroup[p] == gone) {
                    leastOfGroup[p] = least;
                }
            }
        }

        int countGroups() {
            int groups = 0;
            for (int p = 0; p < MOST_POINTS; p++) {
                if (points.isThere(p) && leastOfGroup[p] == p) {
                    groups++;
                }
            }
            return groups;
        }
    }

    /** The rows SEEN, and which MEASURES fit them. */
    private static final class Seen {
        private static final int ROOM = 12;
        private static final int ROW_BYTES = 4;

        private final Points points;
        private final int[] one = new int[ROOM];
        private final int[] other = new int[ROOM];
        private final int[] far = new int[ROOM];
        private final boolean[] fit = new boolean[MEASURES];
        int rows;

        Seen(Points points) {
            this.points = points;
        }

        boolean takeFrom(Tape tape) {
            int told = tape.length / ROW_BYTES;
            if (tape.length % ROW_BYTES != 0 || told < 1 || told > ROOM) {
                return false;
            }
            for (int row = 0; row < told; row++) {
                int p = tape.byteAt(ROW_BYTES * row);
                int q = tape.byteAt(ROW_BYTES * row + 1);
                if (p == q || !points.isThere(p) || !points.isThere(q)) {
                    return false;
                }
            }
            for (int row = 0; row < told; row++) {
                one[row] = tape.byteAt(ROW_BYTES * row);
                other[row] = tape.byteAt(ROW_BYTES * row + 1);
                far[row] = tape.byteAt(ROW_BYTES * row + 2) << 8 | tape.byteAt(ROW_BYTES * row + 3);
            }
            rows = told;
            return true;
        }

        /** Which MEASURES fit now; the POINTS may have changed since it was asked last. */
        private void judge() {
            for (int measure = 0; measure < MEASURES; measure++) {
                fit[measure] = isFit(measure);
            }
        }

        private boolean isFit(int measure) {
            for (int row = 0; row < rows; row++) {
                int p = one[row];
                int q = other[row];
                if (points.isThere(p) && points.isThere(q)
                        && Points.farBy(measure, points.place[p], points.place[q]) != far[row]) {
                    return false;
                }
            }
            return true;
        }

        int countFits() {
            judge();
            int fits = 0;
            for (int measure = 0; measure < MEASURES; measure++) {
                if (fit[measure]) {
                    fits++;
                }
            }
            return fits;
        }

        int kthFit(int k) {
            judge();
            int left = k;
            for (int measure = 0; measure < MEASURES; measure++) {
                if (fit[measure]) {
                    if (left == 0) {
                        return measure;
                    }
                    left--;
                }
            }
            return NONE;
        }

        /** TELLING, with the number of FITS left in the place of FAR: the first pair of fewest is the least. */
        int tellingPair() {
            judge();
            int telling = NONE;
            for (int p = 0; p < MOST_POINTS; p++) {
                for (int q = p + 1; q < MOST_POINTS; q++) {
                    if (points.isThere(p) && points.isThere(q)) {
                        int pair = Pair.packed(p, q, mostLeftBy(points.place[p], points.place[q]));
                        telling = telling == NONE ? pair : Math.min(telling, pair);
                    }
                }
            }
            return telling;
        }

        private int mostLeftBy(int onePlace, int otherPlace) {
            int most = 0;
            for (int measure = 0; measure < MEASURES; measure++) {
                if (fit[measure]) {
                    int told = Points.farBy(measure, onePlace, otherPlace);
                    int left = 0;
                    for (int like = 0; like < MEASURES; like++) {
                        if (fit[like] && Points.farBy(like, onePlace, otherPlace) == told) {
                            left++;
                        }
                    }
                    most = Math.max(most, left);
                }
            }
            return most;
        }
    }

    /** The latest IMAGE that was written; and how one is read. */
    private static final class Image {
        private static final int HEAD_BYTES = 2;
        private static final int POINT_BYTES = 6;
        private static final int NO_PARENT = 255;
        private static final int CHECK_START = 149;
        private static final int CHECK_MODULUS = 251;

        final int[] bytes = new int[HEAD_BYTES + MOST_POINTS * POINT_BYTES + 1];
        int length;

        void write(Points points) {
            length = 0;
            put(points.measure);
            put(points.count);
            for (int p = 0; p < MOST_POINTS; p++) {
                if (points.isThere(p)) {
                    put(p);
                    put(points.place[p] >> 16 & 255);
                    put(points.place[p] >> 8 & 255);
                    put(points.place[p] & 255);
                    put(points.level[p]);
                    put(points.parent[p] == NONE ? NO_PARENT : points.parent[p]);
                }
            }
            int check = CHECK_START;
            for (int i = 0; i < length; i++) {
                check = checkedBy(check, bytes[i]);
            }
            put(check);
        }

        private void put(int octet) {
            if (length < bytes.length) {
                bytes[length] = octet;
                length++;
            }
        }

        private static int checkedBy(int check, int octet) {
            return (3 * check + octet) % CHECK_MODULUS;
        }

        /** Whether the tape is AN IMAGE; if so, these POINTS are as it tells, else they are of no use. */
        static boolean readInto(Points points, Tape tape) {
            points.clear();
            int count = tape.byteAt(1);
            if (count < 0 || count > MOST_POINTS || !isMeasure(tape.byteAt(0))
                    || tape.length != HEAD_BYTES + count * POINT_BYTES + 1 || !isChecked(tape)) {
                return false;
            }
            points.measure = tape.byteAt(0);
            int last = NONE;
            for (int i = 0; i < count; i++) {
                int start = HEAD_BYTES + i * POINT_BYTES;
                int p = tape.byteAt(start);
                if (p <= last || !readPointAt(points, tape, start)) {
                    return false;
                }
                last = p;
            }
            return isCovering(points) && isSeparate(points);
        }

        private static boolean isChecked(Tape tape) {
            int check = CHECK_START;
            for (int i = 0; i + 1 < tape.length; i++) {
                check = checkedBy(check, tape.byteAt(i));
            }
            return check == tape.byteAt(tape.length - 1);
        }

        private static boolean readPointAt(Points points, Tape tape, int start) {
            int p = tape.byteAt(start);
            int level = tape.byteAt(start + 4);
            int parent = tape.byteAt(start + 5);
            if (p < 0 || p >= MOST_POINTS || !isLevel(level)) {
                return false;
            }
            points.place[p] = placeOf(tape.byteAt(start + 1), tape.byteAt(start + 2), tape.byteAt(start + 3));
            points.level[p] = level;
            points.parent[p] = parent == NO_PARENT ? NONE : parent;
            points.count++;
            if (level == TOP_LEVEL) {
                if (points.root != NONE || parent != NO_PARENT) {
                    return false;
                }
                points.root = p;
            }
            return true;
        }

        private static boolean isCovering(Points points) {
            if (points.count > 0 && points.root == NONE) {
                return false;
            }
            for (int p = 0; p < MOST_POINTS; p++) {
                if (points.isThere(p) && p != points.root) {
                    int parent = points.parent[p];
                    int above = points.level[p] + 1;
                    if (!points.isThere(parent) || points.level[parent] < above
                            || points.farOfTwo(p, parent) >= 1 << above) {
                        return false;
                    }
                }
            }
            return true;
        }

        /** At LEVEL 0 this asks for a FAR of 1, and so for unlike PLACES. */
        private static boolean isSeparate(Points points) {
            for (int p = 0; p < MOST_POINTS; p++) {
                for (int q = p + 1; q < MOST_POINTS; q++) {
                    if (points.isThere(p) && points.isThere(q)
                            && points.farOfTwo(p, q) < 1 << Math.min(points.level[p], points.level[q])) {
                        return false;
                    }
                }
            }
            return true;
        }
    }
}
