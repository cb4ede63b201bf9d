/**
 * A harbour as a text: rows of channels, locks, berths, yards, roads and gates are read,
 * judged, printed in order and compared with a harbour that was kept.
 *
 * <p>All rows of numbers are made in constructors and used again, so that no call makes an object.
 */
public final class HarbourText {
    public static final int NONE = -1;

    private static final int POINTS = 16;
    private static final int NAMES = 100;
    private static final int KINDS = 6;
    private static final int MOST_SIGNS = 500;
    private static final int MOST_PIECES = 50;
    private static final int MOST_NUMBERS = 4;

    private static final int CHANNEL = 0;
    private static final int LOCK = 1;
    private static final int BERTH = 2;
    private static final int YARD = 3;
    private static final int ROAD = 4;
    private static final int GATE = 5;

    private static final int FIRST_POINT = 0;
    private static final int SECOND_POINT = 1;
    private static final int LOCK_CHAMBERS = 1;
    private static final int CHANNEL_LENGTH = 2;
    private static final int CHANNEL_DEPTH = 3;
    private static final int BERTH_DEPTH = 2;

    /** Deeper than every channel and berth, so that a point is no limit to itself. */
    private static final int ANY_DEPTH = 99;

    private static final int RIGHT = 0;
    private static final int WRONG_SIGN = 1;
    private static final int NAME_AGAIN = 2;
    private static final int OUT_OF_RANGE = 3;
    private static final int NO_CHAMBER = 4;
    private static final int TOO_MANY_ROWS = 5;

    private static final int NO_CHANNEL = 0;
    private static final int NO_ROAD = 1;
    private static final int NO_LENGTH = 2;
    private static final int TOO_DEEP = 3;

    private static final int FIRST_KIND_COUNT = 10;

    private static final char[] LETTERS = {'C', 'L', 'B', 'Y', 'R', 'G'};
    private static final int[] NUMBERS_OF_KIND = {4, 4, 4, 2, 2, 1};

    /** A line for each kind, MOST_NUMBERS in a line: the least that each number may be. */
    private static final int[] LEAST = {
        0, 0, 0, 1,
        0, 0, 1, 1,
        0, 1, 1, 0,
        0, 0, 0, 0,
        0, 0, 0, 0,
        0, 0, 0, 0,
    };

    /** The same lines: the most that each number may be. */
    private static final int[] MOST = {
        15, 15, 99, 30,
        15, 4, 99, 30,
        15, 99, 30, 9,
        15, 50, 0, 0,
        15, 15, 0, 0,
        15, 0, 0, 0,
    };

    private final TextReader reader = new TextReader();
    private final Harbour harbour = new Harbour();
    private final Harbour kept = new Harbour();
    private final Ways ways = new Ways();
    private final BadList badList = new BadList();
    private final Printout printout = new Printout();

    public HarbourText() {
    }

    public boolean sign(int c) {
        return reader.collect(c);
    }

    public int read() throws IllegalStateException {
        if (!reader.readAll()) {
            throw new IllegalStateException("the text has a failure");
        }
        harbour.copyFrom(reader.result());
        badList.judge(harbour, ways);
        printout.write(harbour);
        return harbour.size();
    }

    public int failure(int which) {
        if (which == 0) {
            return reader.failureNumber();
        }
        return which == 1 ? reader.failurePlace() : NONE;
    }

    public int piece(int i, int what) throws IndexOutOfBoundsException {
        if (i < 0 || i >= harbour.size()) {
            throw new IndexOutOfBoundsException("there is no such piece");
        }
        int kind = harbour.kindOf(i);
        if (what < 0 || what >= 2 + numbersOfKind(kind)) {
            throw new IndexOutOfBoundsException("the piece has no such number");
        }
        if (what == 0) {
            return kind;
        }
        return what == 1 ? harbour.nameOf(i) : harbour.numberOf(i, what - 2);
    }

    public int find(int kind, int name) {
        return harbour.indexOf(kind, name);
    }

    public int reach(int way, int from, int to) throws IllegalArgumentException {
        if (way != 0 && way != 1) {
            throw new IllegalArgumentException("there is no such way");
        }
        if (!isPoint(from) || !isPoint(to)) {
            throw new IllegalArgumentException("there are no such points");
        }
        ways.spread(harbour, way == 0 ? CHANNEL : ROAD, from);
        return ways.depthAt(to) > 0 ? 1 : 0;
    }

    public int deep(int from, int to) throws IllegalArgumentException {
        if (!isPoint(from) || !isPoint(to)) {
            throw new IllegalArgumentException("there are no such points");
        }
        ways.spread(harbour, CHANNEL, from);
        return ways.depthAt(to);
    }

    public int bad() {
        return badList.size();
    }

    public int unjoined(int i) {
        return badList.entry(i);
    }

    public int print() {
        return printout.length();
    }

    public int at(int i) throws IndexOutOfBoundsException {
        if (i < 0 || i >= printout.length()) {
            throw new IndexOutOfBoundsException("there is no such sign");
        }
        return printout.signAt(i);
    }

    public int keep() {
        kept.copyFrom(harbour);
        return kept.size();
    }

    public int compare() {
        return harbour.missingIn(kept) + kept.missingIn(harbour) + harbour.changedIn(kept);
    }

    public int count(int what) {
        switch (what) {
            case 0:
                return reader.length();
            case 1:
                return harbour.size();
            case 2:
                return kept.size();
            default:
                return what < FIRST_KIND_COUNT ? NONE : harbour.sizeOfKind(what - FIRST_KIND_COUNT);
        }
    }

    private static boolean isPoint(int point) {
        return point >= 0 && point < POINTS;
    }

    private static boolean isKind(int kind) {
        return kind >= 0 && kind < KINDS;
    }

    private static int numbersOfKind(int kind) {
        return isKind(kind) ? NUMBERS_OF_KIND[kind] : 0;
    }

    /** Pieces in the order in which they were read. */
    private static final class Harbour {
        private final int[] kinds = new int[MOST_PIECES];
        private final int[] names = new int[MOST_PIECES];
        private final int[] numbers = new int[MOST_PIECES * MOST_NUMBERS];
        private int size = 0;

        int size() {
            return size;
        }

        boolean isFull() {
            return size >= MOST_PIECES;
        }

        void clear() {
            size = 0;
        }

        void begin(int kind, int name) {
            if (!isFull()) {
                kinds[size] = kind;
                names[size] = name;
                size++;
            }
        }

        /** Sets a number of the piece that was begun last. */
        void setNumber(int which, int number) {
            if (size > 0 && which >= 0 && which < MOST_NUMBERS) {
                numbers[(size - 1) * MOST_NUMBERS + which] = number;
            }
        }

        int kindOf(int i) {
            return i >= 0 && i < size ? kinds[i] : NONE;
        }

        int nameOf(int i) {
            return i >= 0 && i < size ? names[i] : NONE;
        }

        int numberOf(int i, int which) {
            if (i < 0 || i >= size || which < 0 || which >= MOST_NUMBERS) {
                return NONE;
            }
            return numbers[i * MOST_NUMBERS + which];
        }

        int indexOf(int kind, int name) {
            for (int i = 0; i < size; i++) {
                if (kinds[i] == kind && names[i] == name) {
                    return i;
                }
            }
            return NONE;
        }

        int sizeOfKind(int kind) {
            if (!isKind(kind)) {
                return NONE;
            }
            int found = 0;
            for (int i = 0; i < size; i++) {
                if (kinds[i] == kind) {
                    found++;
                }
            }
            return found;
        }

        /** A piece's place in the printed order: a later kind, then a greater name, ranks higher. */
        int rankOf(int i) {
            return kindOf(i) * NAMES + nameOf(i);
        }

        /** The piece that is printed next behind a rank; NONE behind the last one. */
        int nextBehind(int rank) {
            int next = NONE;
            for (int i = 0; i < size; i++) {
                if (rankOf(i) > rank && (next == NONE || rankOf(i) < rankOf(next))) {
                    next = i;
                }
            }
            return next;
        }

        boolean hasPieceAt(int kind, int point) {
            for (int i = 0; i < size; i++) {
                if (kinds[i] == kind
                        && (numberOf(i, FIRST_POINT) == point || numberOf(i, SECOND_POINT) == point)) {
                    return true;
                }
            }
            return false;
        }

        void copyFrom(Harbour other) {
            size = other.size;
            System.arraycopy(other.kinds, 0, kinds, 0, MOST_PIECES);
            System.arraycopy(other.names, 0, names, 0, MOST_PIECES);
            System.arraycopy(other.numbers, 0, numbers, 0, MOST_PIECES * MOST_NUMBERS);
        }

        int missingIn(Harbour other) {
            int missing = 0;
            for (int i = 0; i < size; i++) {
                if (other.indexOf(kinds[i], names[i]) == NONE) {
                    missing++;
                }
            }
            return missing;
        }

        int changedIn(Harbour other) {
            int changed = 0;
            for (int i = 0; i < size; i++) {
                int there = other.indexOf(kinds[i], names[i]);
                if (there != NONE && !hasSameNumbers(i, other, there)) {
                    changed++;
                }
            }
            return changed;
        }

        private boolean hasSameNumbers(int i, Harbour other, int there) {
            int many = numbersOfKind(kindOf(i));
            for (int which = 0; which < many; which++) {
                if (numberOf(i, which) != other.numberOf(there, which)) {
                    return false;
                }
            }
            return true;
        }
    }

    /** Collects the text and reads its rows, from the first sign up to the first failure. */
    private static final class TextReader {
        private final char[] signs = new char[MOST_SIGNS];
        private final Harbour draft = new Harbour();
        private int length = 0;
        private int place = 0;
        private int failureNumber = RIGHT;
        private int failurePlace = NONE;

        int length() {
            return length;
        }

        int failureNumber() {
            return failureNumber;
        }

        int failurePlace() {
            return failurePlace;
        }

        Harbour result() {
            return draft;
        }

        boolean collect(int c) {
            if (c < 33 || c > 126 || length >= MOST_SIGNS) {
                return false;
            }
            signs[length] = (char) c;
            length++;
            return true;
        }

        /** Uses up the text; true if all of it is right. */
        boolean readAll() {
            draft.clear();
            place = 0;
            failureNumber = RIGHT;
            failurePlace = NONE;
            boolean right = true;
            // The row behind the last allowed one has its turn, too: it fails at its letter.
            for (int row = 0; row <= MOST_PIECES && right && place < length; row++) {
                right = readRow();
            }
            length = 0;
            return right;
        }

        private boolean readRow() {
            int kind = kindHere();
            if (kind == NONE) {
                return fail(WRONG_SIGN, place);
            }
            if (draft.isFull()) {
                return fail(TOO_MANY_ROWS, place);
            }
            place++;
            if (!readName(kind) || !readSign('=')) {
                return false;
            }
            int many = numbersOfKind(kind);
            for (int which = 0; which < many; which++) {
                if (!readNumber(kind, which) || !readSign(which + 1 < many ? ',' : ';')) {
                    return false;
                }
            }
            return true;
        }

        private boolean readName(int kind) {
            int start = place;
            int name = readDigits();
            if (name == NONE) {
                return fail(WRONG_SIGN, place);
            }
            if (draft.indexOf(kind, name) != NONE) {
                return fail(NAME_AGAIN, start);
            }
            draft.begin(kind, name);
            return true;
        }

        private boolean readNumber(int kind, int which) {
            int start = place;
            int number = readDigits();
            if (number == NONE) {
                return fail(WRONG_SIGN, place);
            }
            int wrong = judgeNumber(kind, which, number);
            if (wrong != RIGHT) {
                return fail(wrong, start);
            }
            draft.setNumber(which, number);
            return true;
        }

        private int judgeNumber(int kind, int which, int number) {
            if (!isInRange(kind, which, number)) {
                return OUT_OF_RANGE;
            }
            if ((kind == CHANNEL || kind == ROAD) && which == SECOND_POINT
                    && number == draft.numberOf(draft.size() - 1, FIRST_POINT)) {
                return OUT_OF_RANGE;
            }
            if (kind == LOCK && which == LOCK_CHAMBERS && number == 0) {
                return NO_CHAMBER;
            }
            return RIGHT;
        }

        private static boolean isInRange(int kind, int which, int number) {
            if (!isKind(kind) || which < 0 || which >= MOST_NUMBERS) {
                return false;
            }
            int entry = kind * MOST_NUMBERS + which;
            return number >= LEAST[entry] && number <= MOST[entry];
        }

        private boolean readSign(char wanted) {
            if (signHere() != wanted) {
                return fail(WRONG_SIGN, place);
            }
            place++;
            return true;
        }

        /** The number of the one or two digits that stand here; NONE if there is no digit. */
        private int readDigits() {
            int first = digitHere();
            if (first == NONE) {
                return NONE;
            }
            place++;
            int second = digitHere();
            if (second == NONE) {
                return first;
            }
            place++;
            return 10 * first + second;
        }

        private int digitHere() {
            int sign = signHere();
            return sign >= '0' && sign <= '9' ? sign - '0' : NONE;
        }

        private int kindHere() {
            int sign = signHere();
            for (int kind = 0; kind < KINDS; kind++) {
                if (LETTERS[kind] == sign) {
                    return kind;
                }
            }
            return NONE;
        }

        /** NONE behind the end, so that a row cut off fails at the length. */
        private int signHere() {
            return place >= 0 && place < length ? signs[place] : NONE;
        }

        private boolean fail(int number, int where) {
            failureNumber = number;
            failurePlace = where;
            return false;
        }
    }

    /** How deep each point is reached from one point; 0 where it is not. */
    private static final class Ways {
        private final int[] depths = new int[POINTS];

        int depthAt(int point) {
            return isPoint(point) ? depths[point] : 0;
        }

        void spread(Harbour harbour, int kind, int from) {
            for (int point = 0; point < POINTS; point++) {
                depths[point] = point == from ? ANY_DEPTH : 0;
            }
            boolean changed = true;
            // A way without a circle has fewer pieces than there are points.
            for (int round = 0; round < POINTS && changed; round++) {
                changed = spreadOnce(harbour, kind);
            }
        }

        private boolean spreadOnce(Harbour harbour, int kind) {
            boolean changed = false;
            int many = harbour.size();
            for (int i = 0; i < many; i++) {
                if (harbour.kindOf(i) == kind && spreadAlong(harbour, i)) {
                    changed = true;
                }
            }
            return changed;
        }

        private boolean spreadAlong(Harbour harbour, int i) {
            int first = harbour.numberOf(i, FIRST_POINT);
            int second = harbour.numberOf(i, SECOND_POINT);
            if (harbour.kindOf(i) == ROAD) {
                return deepen(first, second, ANY_DEPTH);
            }
            int depth = harbour.numberOf(i, CHANNEL_DEPTH);
            return deepen(first, second, depth) || deepen(second, first, depth);
        }

        private boolean deepen(int from, int to, int most) {
            if (!isPoint(from) || !isPoint(to)) {
                return false;
            }
            int depth = Math.min(depths[from], most);
            if (depth <= depths[to]) {
                return false;
            }
            depths[to] = depth;
            return true;
        }
    }

    /** All that is bad in a harbour: 10 * the piece and the reason, reason by reason. */
    private static final class BadList {
        // A berth has two reasons at the most, every other piece one.
        private final int[] entries = new int[2 * MOST_PIECES];
        private int size = 0;

        int size() {
            return size;
        }

        int entry(int i) {
            return i >= 0 && i < size ? entries[i] : NONE;
        }

        void judge(Harbour harbour, Ways ways) {
            size = 0;
            ways.spread(harbour, CHANNEL, 0);
            for (int reason = NO_CHANNEL; reason <= TOO_DEEP; reason++) {
                addAll(harbour, ways, reason);
            }
        }

        private void addAll(Harbour harbour, Ways ways, int reason) {
            int many = harbour.size();
            for (int i = 0; i < many; i++) {
                if (size < entries.length && holds(harbour, ways, reason, i)) {
                    entries[size] = 10 * i + reason;
                    size++;
                }
            }
        }

        private static boolean holds(Harbour harbour, Ways ways, int reason, int i) {
            int kind = harbour.kindOf(i);
            int point = harbour.numberOf(i, FIRST_POINT);
            switch (reason) {
                case NO_CHANNEL:
                    return (kind == LOCK || kind == BERTH) && !harbour.hasPieceAt(CHANNEL, point);
                case NO_ROAD:
                    return (kind == YARD || kind == GATE) && !harbour.hasPieceAt(ROAD, point);
                case NO_LENGTH:
                    return kind == CHANNEL && harbour.numberOf(i, CHANNEL_LENGTH) == 0;
                case TOO_DEEP:
                    return kind == BERTH && harbour.numberOf(i, BERTH_DEPTH) > ways.depthAt(point);
                default:
                    return false;
            }
        }
    }

    /** A harbour printed: never longer than the text it was read from. */
    private static final class Printout {
        private final char[] signs = new char[MOST_SIGNS];
        private int length = 0;

        int length() {
            return length;
        }

        int signAt(int i) {
            return i >= 0 && i < length ? signs[i] : NONE;
        }

        void write(Harbour harbour) {
            length = 0;
            int rank = NONE;
            int many = harbour.size();
            for (int written = 0; written < many; written++) {
                int i = harbour.nextBehind(rank);
                writeRow(harbour, i);
                rank = harbour.rankOf(i);
            }
        }

        private void writeRow(Harbour harbour, int i) {
            int kind = harbour.kindOf(i);
            if (!isKind(kind)) {
                return;
            }
            writeSign(LETTERS[kind]);
            writeNumber(harbour.nameOf(i));
            int many = numbersOfKind(kind);
            for (int which = 0; which < many; which++) {
                writeSign(which == 0 ? '=' : ',');
                writeNumber(harbour.numberOf(i, which));
            }
            writeSign(';');
        }

        private void writeNumber(int number) {
            if (number >= 10) {
                writeSign((char) ('0' + number / 10));
            }
            writeSign((char) ('0' + number % 10));
        }

        private void writeSign(char sign) {
            if (length < MOST_SIGNS) {
                signs[length] = sign;
                length++;
            }
        }
    }
}
