import java.util.Arrays;

/**
 * A bench for carets in one line of signs that run both ways.
 *
 * Every row is made in the constructors and used again: no call makes an object, so that a run's
 * room does not depend on how many calls it has.
 */
public final class CaretBench {
    public static final int NONE = -1;

    private static final int MOST_SIGNS = 60;
    private static final int MOST_CHANGES = 8;
    private static final int BYTES_PUT = 16;

    private static final int NO_SIGN = -1;
    private static final int TOO_MANY = -2;

    /* The first two are also the ways of a line and the bases of what stands in no isle. */
    private static final int FORWARD = 0;
    private static final int BACKWARD = 1;
    private static final int DIGIT = 2;
    private static final int SEPARATOR = 3;
    private static final int PLAIN = 4;
    private static final int MARK = 5;

    private static final int WITH_AHEAD = 0;
    private static final int WITH_BEHIND = 1;

    private final Line line;
    private final Clusters clusters;
    private final Rows rows;
    private final Sight sight;
    private final Caret here;
    private final Pieces pieces;
    private final History history;

    public CaretBench() {
        line = new Line();
        clusters = new Clusters();
        rows = new Rows();
        sight = new Sight();
        here = new Caret(clusters, sight);
        pieces = new Pieces();
        history = new History();
        layOut();
    }

    public int way(int way) {
        if (way != FORWARD && way != BACKWARD) {
            return NONE;
        }
        int old = line.base();
        line.turnTo(way);
        layOut();
        return old;
    }

    public int put(int a, int b, int c, int d) {
        int more = 0;
        for (int i = 0; i < BYTES_PUT; i++) {
            int sign = byteOf(a, b, c, d, i);
            if (sign != 0) {
                if (!Signs.isSign(sign)) {
                    return NO_SIGN;
                }
                more++;
            }
        }
        if (!line.hasRoomFor(more)) {
            return TOO_MANY;
        }
        if (more > 0) {
            keepForUndo();
            appendBytes(a, b, c, d);
            layOut();
            here.settle(here.stand(), here.side());
        }
        return line.length();
    }

    public int clear() {
        return strike(0, line.length(), WITH_AHEAD);
    }

    public int count(int what) {
        switch (what) {
            case 0: return line.length();
            case 1: return clusters.number();
            case 2: return clusters.standNumber();
            case 3: return sight.width();
            case 4: return rows.numberWithSigns();
            case 5: return rows.highest();
            default: return NONE;
        }
    }

    public int sign(int i) {
        return line.at(i);
    }

    public int level(int i) {
        return line.has(i) ? rows.levelOf(i) : NONE;
    }

    public int cluster(int k, int what) {
        if (!clusters.has(k)) {
            return NONE;
        }
        switch (what) {
            case 0: return clusters.firstOf(k);
            case 1: return clusters.endOf(k) - clusters.firstOf(k);
            case 2: return sight.levelOf(k);
            case 3: return sight.leftOf(k);
            case 4: return clusters.widthOf(k);
            case 5: return clusters.isJoined(k) ? 1 : 0;
            case 6: return sight.placeOf(k);
            default: return NONE;
        }
    }

    public int seen(int v) {
        int k = sight.clusterAtPlace(v);
        if (k == NONE) {
            return NONE;
        }
        int first = line.at(clusters.firstOf(k));
        return isEven(sight.levelOf(k)) ? first : Signs.mateOf(first);
    }

    // ---- the caret

    public int caret(int what) {
        switch (what) {
            case 0: return here.stand();
            case 1: return here.side();
            case 2: return here.x();
            default: return NONE;
        }
    }

    public boolean go(int stand, int side) {
        boolean may = side == WITH_AHEAD || (side == WITH_BEHIND && clusters.joinedAround(stand) == NONE);
        if (!may || !clusters.isStand(stand)) {
            return false;
        }
        here.place(stand, side);
        return true;
    }

    public boolean on(boolean on) {
        int next = on ? clusters.standFrom(here.stand() + 1) : clusters.standUpTo(here.stand() - 1);
        if (next == NONE) {
            return false;
        }
        here.place(next, on ? WITH_AHEAD : WITH_BEHIND);
        return true;
    }

    public boolean step(boolean right) {
        return here.stepOver(right);
    }

    public boolean word(boolean on) {
        return on ? goOnByWord() : goBackByWord();
    }

    public int pick(int x) {
        int shown = clusters.number();
        if (shown == 0) {
            here.place(0, WITH_AHEAD);
        } else if (x < 0) {
            here.toSideOf(sight.clusterAtPlace(0), false);
        } else if (x >= sight.width()) {
            here.toSideOf(sight.clusterAtPlace(shown - 1), true);
        } else {
            pickWithin(sight.clusterOver(x), x);
        }
        return here.stand();
    }

    // ---- selecting, striking, typing

    public int select(int a, int b) {
        if (!clusters.isBetween(a) || !clusters.isBetween(b)) {
            return NONE;
        }
        pieces.gather(clusters, sight, Math.min(a, b), Math.max(a, b));
        return pieces.number();
    }

    public int piece(int k, int what) {
        switch (what) {
            case 0: return pieces.leftOf(k);
            case 1: return pieces.rightOf(k);
            default: return NONE;
        }
    }

    public int back() {
        int stand = here.stand();
        if (Signs.isMark(line.at(stand - 1))) {
            return strike(stand - 1, stand, WITH_BEHIND);
        }
        int k = clusters.aroundOrAheadOf(stand);
        return k == NONE ? 0 : strike(clusters.firstOf(k), clusters.endOf(k), WITH_BEHIND);
    }

    public int ahead() {
        int k = clusters.aroundOrBehind(here.stand());
        return k == NONE ? 0 : strike(clusters.firstOf(k), clusters.endOf(k), WITH_AHEAD);
    }

    public boolean type(int sign) {
        if (!Signs.isSign(sign) || !line.hasRoomFor(1)) {
            return false;
        }
        keepForUndo();
        line.insert(here.stand(), sign);
        layOut();
        here.settle(here.stand() + 1, WITH_AHEAD);
        return true;
    }

    public int cut(int a, int b) {
        if (!clusters.isStand(a) || !clusters.isStand(b)) {
            return NONE;
        }
        return strike(Math.min(a, b), Math.max(a, b), WITH_AHEAD);
    }

    public int undo() {
        if (!history.takeBack(line)) {
            return NONE;
        }
        layOut();
        here.settle(history.standTaken(), history.sideTaken());
        return history.number();
    }

    // ---- what the calls share

    private void layOut() {
        clusters.gather(line);
        rows.lay(line, clusters);
        sight.lay(line, clusters, rows);
    }

    private void keepForUndo() {
        history.keep(line, here.stand(), here.side());
    }

    /* The caret goes there even if nothing is struck: a cut between a stand and itself moves it too. */
    private int strike(int from, int to, int side) {
        if (from < to) {
            keepForUndo();
            line.remove(from, to);
            layOut();
        }
        here.settle(from, side);
        return to - from;
    }

    private void appendBytes(int a, int b, int c, int d) {
        for (int i = 0; i < BYTES_PUT; i++) {
            int sign = byteOf(a, b, c, d, i);
            if (sign != 0) {
                line.insert(line.length(), sign);
            }
        }
    }

    private boolean goOnByWord() {
        int end = line.length();
        if (here.stand() == end) {
            return false;
        }
        for (int s = here.stand() + 1; s < end; s++) {
            if (beginsWord(s)) {
                here.place(s, WITH_BEHIND);
                return true;
            }
        }
        here.place(end, WITH_AHEAD);
        return true;
    }

    private boolean goBackByWord() {
        if (here.stand() == 0) {
            return false;
        }
        int s = here.stand() - 1;
        while (s > 0 && !beginsWord(s)) {
            s--;
        }
        here.place(s, WITH_BEHIND);
        return true;
    }

    private boolean beginsWord(int stand) {
        int before = clusters.endingAt(stand);
        int behind = clusters.beginningAt(stand);
        return before != NONE && behind != NONE
            && !Signs.isOfWord(line.at(clusters.firstOf(before)))
            && Signs.isOfWord(line.at(clusters.firstOf(behind)));
    }

    private void pickWithin(int k, int x) {
        int into = x - sight.leftOf(k);
        int width = clusters.widthOf(k);
        if (clusters.isJoined(k) && 4 * into >= width && 4 * into < 3 * width) {
            here.toMiddleOf(k);
        } else {
            here.toSideOf(k, 2 * into >= width);
        }
    }

    private static int byteOf(int a, int b, int c, int d, int i) {
        int four = i < 4 ? a : i < 8 ? b : i < 12 ? c : d;
        return (four >>> (24 - 8 * (i & 3))) & 255;
    }

    private static boolean isEven(int number) {
        return (number & 1) == 0;
    }

    private static int valueAt(int[] values, int i, int otherwise) {
        return i >= 0 && i < values.length ? values[i] : otherwise;
    }

    /** What each sign is by itself. */
    private static final class Signs {
        private static final int LETTER_WIDTH = 10;
        private static final int DIGIT_WIDTH = 8;
        private static final int BLANK_WIDTH = 5;
        private static final int OTHER_WIDTH = 6;

        private Signs() {
        }

        static int kindOf(int sign) {
            if (sign >= 'a' && sign <= 'z') {
                return FORWARD;
            }
            if (sign >= 'A' && sign <= 'Z') {
                return BACKWARD;
            }
            if (sign >= '0' && sign <= '9') {
                return DIGIT;
            }
            switch (sign) {
                case '+': case '-': case ',': case '.':
                    return SEPARATOR;
                case '\'': case '~':
                    return MARK;
                case ' ': case '^': case '(': case ')': case '<': case '>': case '!':
                case '[': case '{': case ']':
                    return PLAIN;
                default:
                    return NONE;
            }
        }

        static boolean isSign(int sign) {
            return kindOf(sign) != NONE;
        }

        static boolean isMark(int sign) {
            return kindOf(sign) == MARK;
        }

        static boolean isLetter(int sign) {
            return isStrong(kindOf(sign));
        }

        static boolean isOfWord(int sign) {
            return isLetter(sign) || kindOf(sign) == DIGIT;
        }

        static boolean isStrong(int kind) {
            return kind == FORWARD || kind == BACKWARD;
        }

        static boolean beginsIsle(int sign) {
            return sign == '[' || sign == '{';
        }

        static boolean fallsToBaseAtEnd(int sign) {
            return sign == ' ' || sign == ']' || beginsIsle(sign);
        }

        static int widthOf(int sign) {
            switch (kindOf(sign)) {
                case FORWARD: case BACKWARD:
                    return LETTER_WIDTH;
                case DIGIT:
                    return DIGIT_WIDTH;
                default:
                    return sign == ' ' ? BLANK_WIDTH : OTHER_WIDTH;
            }
        }

        static int mateOf(int sign) {
            switch (sign) {
                case '(': return ')';
                case ')': return '(';
                case '<': return '>';
                case '>': return '<';
                default: return sign;
            }
        }
    }

    /** The signs in order, and the way of all. */
    private static final class Line {
        private final int[] signs;
        private int length;
        private int base;

        Line() {
            signs = new int[MOST_SIGNS];
            length = 0;
            base = FORWARD;
        }

        int length() {
            return length;
        }

        int base() {
            return base;
        }

        void turnTo(int newBase) {
            base = newBase;
        }

        boolean has(int i) {
            return i >= 0 && i < length;
        }

        int at(int i) {
            return has(i) ? signs[i] : NONE;
        }

        boolean hasRoomFor(int more) {
            return more <= MOST_SIGNS - length;
        }

        void insert(int place, int sign) {
            if (place < 0 || place > length || length >= MOST_SIGNS) {
                return;
            }
            for (int i = length; i > place; i--) {
                signs[i] = signs[i - 1];
            }
            signs[place] = sign;
            length++;
        }

        void remove(int from, int to) {
            if (from < 0 || from > to || to > length) {
                return;
            }
            int gone = to - from;
            for (int i = to; i < length; i++) {
                signs[i - gone] = signs[i];
            }
            length -= gone;
        }

        void saveTo(int[] saved) {
            for (int i = 0; i < length && i < saved.length; i++) {
                saved[i] = signs[i];
            }
        }

        void loadFrom(int[] saved, int newLength) {
            length = 0;
            for (int i = 0; i < newLength && i < saved.length && i < MOST_SIGNS; i++) {
                signs[i] = saved[i];
                length++;
            }
        }
    }

    /** Which signs stand together, and where the caret may stand between and within them. */
    private static final class Clusters {
        private static final int JOINED_WIDTH = 16;

        private final boolean[] joins;
        private final int[] firsts;
        private final int[] ends;
        private final int[] widths;
        private final int[] beginning;
        private final int[] ending;
        private final int[] around;
        private int number;
        private int joinedNumber;
        private int lastStand;

        Clusters() {
            joins = new boolean[MOST_SIGNS];
            firsts = new int[MOST_SIGNS];
            ends = new int[MOST_SIGNS];
            widths = new int[MOST_SIGNS];
            beginning = new int[MOST_SIGNS + 1];
            ending = new int[MOST_SIGNS + 1];
            around = new int[MOST_SIGNS + 1];
        }

        void gather(Line line) {
            findJoins(line);
            Arrays.fill(beginning, NONE);
            Arrays.fill(ending, NONE);
            Arrays.fill(around, NONE);
            number = 0;
            joinedNumber = 0;
            lastStand = line.length();
            boolean onlyMarksAhead = true;
            int first = 0;
            for (int i = 1; i <= lastStand; i++) {
                onlyMarksAhead = onlyMarksAhead && Signs.isMark(line.at(i - 1));
                if (i == lastStand || begins(line, i, onlyMarksAhead)) {
                    add(line, first, i);
                    first = i;
                }
            }
        }

        private void findJoins(Line line) {
            for (int i = 0; i < line.length(); i++) {
                joins[i] = line.at(i) == '^'
                    && Signs.isLetter(line.at(i - 1))
                    && Signs.kindOf(line.at(i - 1)) == Signs.kindOf(line.at(i + 1))
                    && !joinsAt(i - 2);
            }
            for (int i = line.length(); i < MOST_SIGNS; i++) {
                joins[i] = false;
            }
        }

        private boolean begins(Line line, int i, boolean onlyMarksAhead) {
            if (Signs.isMark(line.at(i))) {
                return onlyMarksAhead;
            }
            return !joinsAt(i) && !joinsAt(i - 1);
        }

        private void add(Line line, int first, int end) {
            if (number >= MOST_SIGNS || first < 0 || first >= end || end > MOST_SIGNS) {
                return;
            }
            firsts[number] = first;
            ends[number] = end;
            widths[number] = Signs.widthOf(line.at(first));
            beginning[first] = number;
            ending[end] = number;
            if (joinsAt(first + 1)) {
                widths[number] = JOINED_WIDTH;
                around[first + 2] = number;
                joinedNumber++;
            }
            number++;
        }

        boolean joinsAt(int i) {
            return i >= 0 && i < joins.length && joins[i];
        }

        int number() {
            return number;
        }

        int standNumber() {
            return number + 1 + joinedNumber;
        }

        boolean has(int k) {
            return k >= 0 && k < number;
        }

        int firstOf(int k) {
            return has(k) ? firsts[k] : NONE;
        }

        int endOf(int k) {
            return has(k) ? ends[k] : NONE;
        }

        int widthOf(int k) {
            return has(k) ? widths[k] : 0;
        }

        boolean isJoined(int k) {
            return has(k) && joinsAt(firsts[k] + 1);
        }

        int beginningAt(int stand) {
            return valueAt(beginning, stand, NONE);
        }

        int endingAt(int stand) {
            return valueAt(ending, stand, NONE);
        }

        int joinedAround(int stand) {
            return valueAt(around, stand, NONE);
        }

        int aroundOrAheadOf(int stand) {
            int k = joinedAround(stand);
            return k != NONE ? k : endingAt(stand);
        }

        int aroundOrBehind(int stand) {
            int k = joinedAround(stand);
            return k != NONE ? k : beginningAt(stand);
        }

        boolean isBetween(int stand) {
            return stand == lastStand || valueAt(beginning, stand, NONE) != NONE;
        }

        boolean isStand(int stand) {
            return isBetween(stand) || valueAt(around, stand, NONE) != NONE;
        }

        /* The first stand from there on, or none. */
        int standFrom(int place) {
            for (int s = Math.max(place, 0); s <= lastStand; s++) {
                if (isStand(s)) {
                    return s;
                }
            }
            return NONE;
        }

        /* The last stand up to there, or none. */
        int standUpTo(int place) {
            for (int s = Math.min(place, lastStand); s >= 0; s--) {
                if (isStand(s)) {
                    return s;
                }
            }
            return NONE;
        }
    }

    /** The isles' rows, and the levels that come of them. */
    private static final class Rows {
        private final int[] bases;
        private final int[] outer;
        private final int[] latest;
        private final int[] rowBases;
        private final int[] before;
        private final int[] behind;
        private final int[] kinds;
        private final int[] waysAhead;
        private final int[] waysBehind;
        private final int[] levels;
        private int length;
        private int made;
        private int lineBase;

        Rows() {
            bases = new int[MOST_SIGNS + 1];
            outer = new int[MOST_SIGNS + 1];
            latest = new int[MOST_SIGNS + 1];
            rowBases = new int[MOST_SIGNS];
            before = new int[MOST_SIGNS];
            behind = new int[MOST_SIGNS];
            kinds = new int[MOST_SIGNS];
            waysAhead = new int[MOST_SIGNS];
            waysBehind = new int[MOST_SIGNS];
            levels = new int[MOST_SIGNS];
        }

        void lay(Line line, Clusters clusters) {
            length = line.length();
            lineBase = line.base();
            divide(line);
            findKinds(line, clusters);
            settleSeparators();
            settleDigits();
            settlePlain();
            findLevels();
            lowerEnd(line);
        }

        private void divide(Line line) {
            made = 0;
            int row = make(lineBase, 0);
            for (int i = 0; i < length; i++) {
                int sign = line.at(i);
                if (sign == ']') {
                    // the row of what stands in no isle is its own outer one
                    row = valueAt(outer, row, 0);
                }
                append(i, row);
                if (Signs.beginsIsle(sign)) {
                    int wanted = sign == '[' ? FORWARD : BACKWARD;
                    row = make(baseWithin(rowBases[i], wanted), row);
                }
            }
        }

        private int make(int base, int around) {
            if (made >= bases.length) {
                return around;
            }
            bases[made] = base;
            outer[made] = around;
            latest[made] = NONE;
            made++;
            return made - 1;
        }

        private static int baseWithin(int base, int wanted) {
            int next = base + 1;
            return (next & 1) == wanted ? next : next + 1;
        }

        private void append(int i, int row) {
            rowBases[i] = valueAt(bases, row, lineBase);
            before[i] = valueAt(latest, row, NONE);
            behind[i] = NONE;
            if (before[i] >= 0 && before[i] < i) {
                behind[before[i]] = i;
            }
            if (row >= 0 && row < latest.length) {
                latest[row] = i;
            }
        }

        private int wayAround(int i) {
            return rowBases[i] & 1;
        }

        private void findKinds(Line line, Clusters clusters) {
            for (int i = 0; i < length; i++) {
                int sign = line.at(i);
                if (Signs.isMark(sign)) {
                    kinds[i] = valueAt(kinds, before[i], wayAround(i));
                } else if (clusters.joinsAt(i)) {
                    kinds[i] = valueAt(kinds, i - 1, PLAIN);
                } else {
                    kinds[i] = Signs.kindOf(sign);
                }
            }
        }

        private void settleSeparators() {
            for (int i = 0; i < length; i++) {
                if (kinds[i] == SEPARATOR) {
                    boolean digits = valueAt(kinds, before[i], PLAIN) == DIGIT
                        && valueAt(kinds, behind[i], PLAIN) == DIGIT;
                    kinds[i] = digits ? DIGIT : PLAIN;
                }
            }
        }

        private void settleDigits() {
            for (int i = 0; i < length; i++) {
                waysAhead[i] = Signs.isStrong(kinds[i])
                    ? kinds[i] : valueAt(waysAhead, before[i], wayAround(i));
                if (kinds[i] == DIGIT && waysAhead[i] == FORWARD) {
                    kinds[i] = FORWARD;
                }
            }
        }

        private void settlePlain() {
            for (int i = 0; i < length; i++) {
                waysAhead[i] = kinds[i] == PLAIN
                    ? valueAt(waysAhead, before[i], wayAround(i)) : wayBesidePlain(kinds[i]);
            }
            for (int i = length - 1; i >= 0; i--) {
                waysBehind[i] = kinds[i] == PLAIN
                    ? valueAt(waysBehind, behind[i], wayAround(i)) : wayBesidePlain(kinds[i]);
            }
            for (int i = 0; i < length; i++) {
                if (kinds[i] == PLAIN) {
                    kinds[i] = waysAhead[i] == waysBehind[i] ? waysAhead[i] : wayAround(i);
                }
            }
        }

        private static int wayBesidePlain(int kind) {
            return kind == FORWARD ? FORWARD : BACKWARD;
        }

        private void findLevels() {
            for (int i = 0; i < length; i++) {
                levels[i] = rowBases[i] + rise(kinds[i], wayAround(i));
            }
        }

        private static int rise(int kind, int way) {
            if (kind == way) {
                return 0;
            }
            return kind == DIGIT && way == FORWARD ? 2 : 1;
        }

        private void lowerEnd(Line line) {
            for (int i = length - 1; i >= 0 && Signs.fallsToBaseAtEnd(line.at(i)); i--) {
                levels[i] = lineBase;
            }
        }

        int levelOf(int i) {
            return valueAt(levels, i, NONE);
        }

        int highest() {
            int highest = length == 0 ? lineBase : 0;
            for (int i = 0; i < length; i++) {
                highest = Math.max(highest, levels[i]);
            }
            return highest;
        }

        int numberWithSigns() {
            int number = 0;
            for (int r = 0; r < made; r++) {
                if (latest[r] != NONE) {
                    number++;
                }
            }
            return number;
        }
    }

    /** The clusters as they are seen, from the left on. */
    private static final class Sight {
        private final int[] levels;
        private final int[] order;
        private final int[] places;
        private final int[] lefts;
        private int shown;
        private int highest;
        private int width;
        private int lineBase;

        Sight() {
            levels = new int[MOST_SIGNS];
            order = new int[MOST_SIGNS];
            places = new int[MOST_SIGNS];
            lefts = new int[MOST_SIGNS];
        }

        void lay(Line line, Clusters clusters, Rows rows) {
            shown = clusters.number();
            lineBase = line.base();
            highest = 0;
            for (int k = 0; k < shown; k++) {
                levels[k] = rows.levelOf(clusters.firstOf(k));
                order[k] = k;
                highest = Math.max(highest, levels[k]);
            }
            for (int floor = highest; floor >= 1; floor--) {
                turnRuns(floor);
            }
            placeAll(clusters);
        }

        private void turnRuns(int floor) {
            int from = 0;
            for (int v = 0; v <= shown; v++) {
                if (v == shown || valueAt(levels, order[v], 0) < floor) {
                    turn(from, v - 1);
                    from = v + 1;
                }
            }
        }

        private void turn(int from, int to) {
            int low = from;
            int high = to;
            while (low < high) {
                int swapped = order[low];
                order[low] = order[high];
                order[high] = swapped;
                low++;
                high--;
            }
        }

        private void placeAll(Clusters clusters) {
            width = 0;
            for (int v = 0; v < shown; v++) {
                int k = order[v];
                if (clusters.has(k)) {
                    places[k] = v;
                    lefts[k] = width;
                    width += clusters.widthOf(k);
                }
            }
        }

        int width() {
            return width;
        }

        int levelOf(int k) {
            return valueAt(levels, k, NONE);
        }

        int placeOf(int k) {
            return valueAt(places, k, NONE);
        }

        int leftOf(int k) {
            return valueAt(lefts, k, NONE);
        }

        /* Each cluster ends where the next one from the left begins. */
        int rightOf(int k) {
            int next = placeOf(k) + 1;
            return next < shown ? leftOf(clusterAtPlace(next)) : width;
        }

        int clusterAtPlace(int v) {
            return v >= 0 && v < shown ? order[v] : NONE;
        }

        int clusterWithLeft(int x) {
            int k = clusterOver(x);
            return k != NONE && leftOf(k) == x ? k : NONE;
        }

        int clusterWithRight(int x) {
            return clusterOver(x - 1);
        }

        int clusterOver(int x) {
            for (int v = 0; v < shown; v++) {
                int k = order[v];
                if (leftOf(k) <= x && x < rightOf(k)) {
                    return k;
                }
            }
            return NONE;
        }

        int xOfBeginning() {
            return lineBase == FORWARD ? 0 : width;
        }

        int xOfEnd() {
            return lineBase == FORWARD ? width : 0;
        }
    }

    /** A stand and a side, and how it comes to the sides of what is seen. */
    private static final class Caret {
        private final Clusters clusters;
        private final Sight sight;
        private int stand;
        private int side;

        Caret(Clusters clusters, Sight sight) {
            this.clusters = clusters;
            this.sight = sight;
            stand = 0;
            side = WITH_AHEAD;
        }

        int stand() {
            return stand;
        }

        int side() {
            return side;
        }

        /* Within a joined cluster there is one side alone, so it is kept here for all who move. */
        void place(int newStand, int newSide) {
            stand = newStand;
            side = clusters.joinedAround(newStand) == NONE ? newSide : WITH_AHEAD;
        }

        void settle(int newStand, int newSide) {
            int next = clusters.standFrom(newStand);
            if (next == newStand) {
                place(newStand, newSide);
            } else {
                place(Math.max(next, 0), WITH_AHEAD);
            }
        }

        int x() {
            int around = clusters.joinedAround(stand);
            if (around != NONE) {
                return sight.leftOf(around) + clusters.widthOf(around) / 2;
            }
            return side == WITH_BEHIND ? xWithBehind() : xWithAhead();
        }

        private int xWithBehind() {
            int k = clusters.beginningAt(stand);
            if (k == NONE) {
                return sight.xOfEnd();
            }
            return isEven(sight.levelOf(k)) ? sight.leftOf(k) : sight.rightOf(k);
        }

        private int xWithAhead() {
            int k = clusters.endingAt(stand);
            if (k == NONE) {
                return sight.xOfBeginning();
            }
            return isEven(sight.levelOf(k)) ? sight.rightOf(k) : sight.leftOf(k);
        }

        void toSideOf(int k, boolean right) {
            if (!clusters.has(k)) {
                return;
            }
            if (isEven(sight.levelOf(k)) == right) {
                place(clusters.endOf(k), WITH_AHEAD);
            } else {
                place(clusters.firstOf(k), WITH_BEHIND);
            }
        }

        void toMiddleOf(int k) {
            if (clusters.isJoined(k)) {
                place(clusters.firstOf(k) + 2, WITH_AHEAD);
            }
        }

        boolean stepOver(boolean right) {
            int around = clusters.joinedAround(stand);
            if (around != NONE) {
                toSideOf(around, right);
                return true;
            }
            int over = right ? sight.clusterWithLeft(x()) : sight.clusterWithRight(x());
            if (over == NONE) {
                return false;
            }
            if (clusters.isJoined(over)) {
                toMiddleOf(over);
            } else {
                toSideOf(over, right);
            }
            return true;
        }
    }

    /** What is seen of the latest selection; it stays as it was when the line changes. */
    private static final class Pieces {
        private final int[] lefts;
        private final int[] rights;
        private int number;

        Pieces() {
            lefts = new int[MOST_SIGNS];
            rights = new int[MOST_SIGNS];
            number = 0;
        }

        void gather(Clusters clusters, Sight sight, int from, int to) {
            number = 0;
            boolean goesOn = false;
            for (int v = 0; v < clusters.number(); v++) {
                int k = sight.clusterAtPlace(v);
                int first = clusters.firstOf(k);
                boolean selected = first >= from && first < to;
                if (selected) {
                    add(sight.leftOf(k), sight.rightOf(k), goesOn);
                }
                goesOn = selected;
            }
        }

        private void add(int left, int right, boolean toLatest) {
            if (toLatest && number > 0 && number <= rights.length) {
                rights[number - 1] = right;
            } else if (number >= 0 && number < lefts.length) {
                lefts[number] = left;
                rights[number] = right;
                number++;
            }
        }

        int number() {
            return number;
        }

        int leftOf(int k) {
            return k < number ? valueAt(lefts, k, NONE) : NONE;
        }

        int rightOf(int k) {
            return k < number ? valueAt(rights, k, NONE) : NONE;
        }
    }

    /** The lines and carets as they were ahead of the latest changes, in a ring. */
    private static final class History {
        private final int[][] lines;
        private final int[] lengths;
        private final int[] stands;
        private final int[] sides;
        private int next;
        private int number;

        History() {
            lines = new int[MOST_CHANGES][MOST_SIGNS];
            lengths = new int[MOST_CHANGES];
            stands = new int[MOST_CHANGES];
            sides = new int[MOST_CHANGES];
            next = 0;
            number = 0;
        }

        int number() {
            return number;
        }

        void keep(Line line, int stand, int side) {
            if (next < 0 || next >= MOST_CHANGES) {
                return;
            }
            line.saveTo(lines[next]);
            lengths[next] = line.length();
            stands[next] = stand;
            sides[next] = side;
            next = next == MOST_CHANGES - 1 ? 0 : next + 1;
            number = Math.min(number + 1, MOST_CHANGES);
        }

        /* The caret that was kept with the line is told by the two calls below until the next keep(). */
        boolean takeBack(Line line) {
            if (number <= 0) {
                return false;
            }
            next = next <= 0 ? MOST_CHANGES - 1 : next - 1;
            number--;
            if (next < MOST_CHANGES) {
                line.loadFrom(lines[next], lengths[next]);
            }
            return true;
        }

        int standTaken() {
            return valueAt(stands, next, 0);
        }

        int sideTaken() {
            return valueAt(sides, next, WITH_AHEAD);
        }
    }
}
