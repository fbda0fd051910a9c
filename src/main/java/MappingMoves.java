import java.util.Arrays;

/**
 * Columns of cells at 24 places (six fields for each of four mappings): of seven kinds of numbers,
 * and shelves of parts. All columns and parts are made with the object and used again, so that
 * no call makes anything but the exceptions of get().
 */
public final class MappingMoves {
    public static final int BAD = -1, FULL = -2, GONE = -11, OUT = -12, OTHER = -13, STORE = -14, CAST = -15, BELOW = -16;

    private static final int FIELDS = 6;
    private static final int MAPPINGS = 4;
    private static final int PLACES = FIELDS * MAPPINGS;
    private static final int MOST_CELLS = 40;
    private static final int MOST_PARTS = 40;
    private static final int MOST_WEIGHT = 1000;
    private static final int MOST_CODE = 9;

    private static final int BYTES = 0, SHORTS = 1, CHARS = 2, INTS = 3, FLOATS = 5, DOUBLES = 6;
    private static final int SHELF_OF_ANY = 7, SHELF_OF_RIGID = 8, SHELF_OF_SOFT = 9;

    private static final int PLAIN = 0, RIGID = 1, SOFT = 2;

    private static final int MOST_RULE = 262143;
    private static final int BITS_OF_DIGIT = 3;
    private static final int MOST_DIGIT = 7;
    private static final int DIGIT_FOR_NONE = 6;

    private static final int CAN_NOT_TURN = -20;
    private static final int FAULT_RAISED = -30;

    /** No kind (a place without a column), no part (an empty cell), no fault. */
    private static final int NONE = -1;
    /** Nothing is in the way. */
    private static final int FREE = 0;

    private final Column[] columns = new Column[PLACES];
    /** A mapping as it was, while another (or the same) gets columns like its own. */
    private final Column[] aside = new Column[FIELDS];
    private final Part[] parts = new Part[MOST_PARTS];
    private int partCount = 0;
    private int latestCopied = 0;

    public MappingMoves() {
        for (int place = 0; place < PLACES; place++) {
            columns[place] = new Column();
        }
        for (int field = 0; field < FIELDS; field++) {
            aside[field] = new Column();
        }
        for (int number = 0; number < MOST_PARTS; number++) {
            parts[number] = new Part();
        }
    }

    // ---- columns

    public int make(int place, int kind, int n) {
        if (!isPlace(place) || kind < BYTES || kind > SHELF_OF_SOFT || n > MOST_CELLS) {
            return BAD;
        }
        if (n < 0) {
            return BELOW;
        }
        columns[place].begin(kind, n);
        return n;
    }

    public int let(int place) {
        if (!isPlace(place)) {
            return BAD;
        }
        Column column = columns[place];
        if (column.isGone()) {
            return GONE;
        }
        int had = column.cells;
        column.letGo();
        return had;
    }

    public int drop(int place) {
        if (!isPlace(place)) {
            return BAD;
        }
        Column column = columns[place];
        if (column.isNone()) {
            return 0;
        }
        column.end();
        return 1;
    }

    public int kind(int place) {
        if (!isPlace(place)) {
            return BAD;
        }
        Column column = columns[place];
        return column.isNone() ? GONE : column.kind;
    }

    public int length(int place) {
        if (!isPlace(place)) {
            return BAD;
        }
        Column column = columns[place];
        return column.isGone() ? GONE : column.cells;
    }

    // ---- numbers

    public int put(int place, int i, long v) {
        int way = inWayOfCell(place, i, false);
        if (way != FREE) {
            return way;
        }
        columns[place].setNumber(i, v);
        return 1;
    }

    public long get(int place, int i) throws NullPointerException, ArrayIndexOutOfBoundsException {
        if (!isPlace(place)) {
            throw new ArrayIndexOutOfBoundsException();
        }
        Column column = columns[place];
        if (column.isGone()) {
            throw new NullPointerException();
        }
        if (!column.hasCell(i)) {
            throw new ArrayIndexOutOfBoundsException();
        }
        if (column.isShelf() && column.heldPart(i) == NONE) {
            throw new NullPointerException();
        }
        return column.tells(i);
    }

    public int sum(int place, int kind) {
        if (!isPlace(place) || !isKindOfNumbers(kind)) {
            return BAD;
        }
        Column column = columns[place];
        if (column.isNone()) {
            return GONE;
        }
        if (column.kind != kind) {
            return CAST;
        }
        return column.isGone() ? GONE : column.total();
    }

    public int turn(int place, int kind) {
        if (!isPlace(place) || !isKindOfNumbers(kind)) {
            return BAD;
        }
        Column column = columns[place];
        if (column.isNone()) {
            return GONE;
        }
        if (column.isShelf()) {
            return OTHER;
        }
        if (column.isGone()) {
            return GONE;
        }
        int stop = column.firstNotIn(kind);
        if (stop < column.cells) {
            return CAN_NOT_TURN - stop;
        }
        column.becomeKind(kind);
        return 1;
    }

    // ---- parts

    public int part(int sort, int w) {
        if (sort < PLAIN || sort > SOFT || w < 0 || w > MOST_WEIGHT) {
            return BAD;
        }
        if (partCount >= MOST_PARTS) {
            return FULL;
        }
        int number = partCount;
        parts[number].begin(sort, w);
        partCount = number + 1;
        return number;
    }

    public int lay(int place, int i, int part) {
        if (!isPlace(place) || part != NONE && !isPart(part)) {
            return BAD;
        }
        int way = inWayOfCell(place, i, true);
        if (way != FREE) {
            return way;
        }
        Column column = columns[place];
        if (!isForPart(column, part)) {
            return STORE;
        }
        column.holdPart(i, part);
        if (isPart(part)) {
            parts[part].laid++;
        }
        return 1;
    }

    public int weigh(int place, int i) {
        int number = partLookedAt(place, i);
        return isPart(number) ? parts[number].weighed() : number;
    }

    public int rigid(int place, int i) {
        int number = partLookedAt(place, i);
        if (!isPart(number)) {
            return number;
        }
        Part part = parts[number];
        return part.sort == RIGID ? part.laid : CAST;
    }

    public int fault(int part, int code) {
        if (!isPart(part) || code < NONE || code > MOST_CODE) {
            return BAD;
        }
        parts[part].code = code;
        return 1;
    }

    public int raise(int place, int i) {
        int number = partLookedAt(place, i);
        if (!isPart(number)) {
            return number;
        }
        int code = parts[number].code;
        return code == NONE ? GONE : FAULT_RAISED - code;
    }

    // ---- from one to another

    public int copy(int from, int at, int into, int to, int n) {
        if (!isPlace(from) || !isPlace(into)) {
            return BAD;
        }
        latestCopied = 0;
        Column source = columns[from];
        Column target = columns[into];
        if (source.isGone() || target.isGone()) {
            return GONE;
        }
        if (source.kind != target.kind && !(source.isShelf() && target.isShelf())) {
            return OTHER;
        }
        if (!source.hasCells(at, n) || !target.hasCells(to, n)) {
            return OUT;
        }
        if (source.kind == target.kind) {
            target.takeCells(source, at, to, n);
            latestCopied = n;
        } else {
            latestCopied = takeParts(source, at, target, to, n);
        }
        return latestCopied < n ? STORE : n;
    }

    public int copied() {
        return latestCopied;
    }

    public int move(int a, int b, int rule) {
        if (!isMapping(a) || !isMapping(b) || rule < 0 || rule > MOST_RULE) {
            return BAD;
        }
        for (int field = 0; field < FIELDS; field++) {
            aside[field].becomeLike(columns[FIELDS * a + field]);
        }
        int count = 0;
        for (int field = 0; field < FIELDS; field++) {
            Column column = columns[FIELDS * b + field];
            moveByDigit(column, (rule >> (BITS_OF_DIGIT * field)) & MOST_DIGIT);
            count += column.isNone() ? 0 : 1;
        }
        return count;
    }

    public int like(int a, int b) {
        if (!isPlace(a) || !isPlace(b)) {
            return BAD;
        }
        Column one = columns[a];
        Column other = columns[b];
        if (one.isGone() || other.isGone()) {
            return GONE;
        }
        return one.isSameAs(other) ? 1 : 0;
    }

    public int told(int what) {
        switch (what) {
            case 0:
                return countColumns();
            case 1:
                return countCells();
            case 2:
                return partCount;
            case 3:
                return countHeld();
            default:
                return BAD;
        }
    }

    // ---- what the calls share

    private static boolean isPlace(int place) {
        return place >= 0 && place < PLACES;
    }

    private static boolean isMapping(int mapping) {
        return mapping >= 0 && mapping < MAPPINGS;
    }

    private static boolean isKindOfNumbers(int kind) {
        return kind >= BYTES && kind <= DOUBLES;
    }

    private boolean isPart(int number) {
        return number >= 0 && number < partCount;
    }

    /** What is in the way of a cell of a shelf, or of numbers, or FREE. */
    private int inWayOfCell(int place, int i, boolean ofShelf) {
        if (!isPlace(place)) {
            return BAD;
        }
        Column column = columns[place];
        if (column.isNone()) {
            return GONE;
        }
        if (column.isShelf() != ofShelf) {
            return OTHER;
        }
        if (column.isGone()) {
            return GONE;
        }
        return column.hasCell(i) ? FREE : OUT;
    }

    /** The number of the part in a cell of a shelf, or the answer that tells what is in the way. */
    private int partLookedAt(int place, int i) {
        int way = inWayOfCell(place, i, true);
        if (way != FREE) {
            return way;
        }
        int number = columns[place].heldPart(i);
        return isPart(number) ? number : GONE;
    }

    /** An empty cell's NONE goes onto every shelf. */
    private boolean isForPart(Column column, int number) {
        return !isPart(number) || column.isForSort(parts[number].sort);
    }

    /** Copies between shelves of unlike kinds up to the first part that the target is not for: how many. */
    private int takeParts(Column source, int at, Column target, int to, int n) {
        for (int k = 0; k < n; k++) {
            int number = source.heldPart(at + k);
            if (!isForPart(target, number)) {
                return k;
            }
            target.holdPart(to + k, number);
        }
        return n;
    }

    /** The one digit that is left, 7, leaves the column as it was. */
    private void moveByDigit(Column column, int digit) {
        if (digit >= 0 && digit < FIELDS) {
            column.becomeLike(aside[digit]);
        } else if (digit == DIGIT_FOR_NONE) {
            column.end();
        }
    }

    private int countColumns() {
        int count = 0;
        for (int place = 0; place < PLACES; place++) {
            count += columns[place].isNone() ? 0 : 1;
        }
        return count;
    }

    private int countCells() {
        int count = 0;
        for (int place = 0; place < PLACES; place++) {
            count += columns[place].isGone() ? 0 : columns[place].cells;
        }
        return count;
    }

    private int countHeld() {
        int count = 0;
        for (int place = 0; place < PLACES; place++) {
            count += columns[place].countHeldHere();
        }
        return count;
    }

    /** What a place has. Its callers look at a cell's number first; the rows are as long as a column can be. */
    private static final class Column {
        private static final int NO_CELLS = -1;

        private int kind = NONE;
        /** How many; NO_CELLS where it was let go, and where there is no column. */
        private int cells = NO_CELLS;
        /** The cells of bytes to longs; on a shelf the parts' numbers, NONE where it is empty. */
        private final long[] wholes = new long[MOST_CELLS];
        /** The cells of floats and doubles: a double tells every float just as it is. */
        private final double[] reals = new double[MOST_CELLS];

        boolean isNone() {
            return kind == NONE;
        }

        /** There is none, or it was let go. */
        boolean isGone() {
            return cells == NO_CELLS;
        }

        boolean isShelf() {
            return kind >= SHELF_OF_ANY;
        }

        boolean isOfReals() {
            return areReals(kind);
        }

        boolean hasCell(int i) {
            return i >= 0 && i < cells;
        }

        /** Written without at + n, which could run over. */
        boolean hasCells(int at, int n) {
            return at >= 0 && n >= 0 && n <= cells - at;
        }

        boolean isForSort(int sort) {
            switch (kind) {
                case SHELF_OF_ANY:
                    return true;
                case SHELF_OF_RIGID:
                    return sort == RIGID;
                case SHELF_OF_SOFT:
                    return sort == SOFT;
                default:
                    return false;
            }
        }

        void begin(int newKind, int n) {
            kind = newKind;
            cells = n;
            Arrays.fill(wholes, isShelf() ? NONE : 0L);
            Arrays.fill(reals, 0.0);
        }

        void letGo() {
            cells = NO_CELLS;
        }

        void end() {
            kind = NONE;
            cells = NO_CELLS;
        }

        int heldPart(int i) {
            return (int) wholes[i];
        }

        void holdPart(int i, int number) {
            wholes[i] = number;
        }

        void setNumber(int i, long v) {
            if (kind == FLOATS) {
                reals[i] = (float) v / 8.0f;
            } else if (kind == DOUBLES) {
                reals[i] = (double) v / 8.0;
            } else {
                wholes[i] = lowestBits(v, kind);
            }
        }

        /** Times 8.0 does for floats too: they are small enough that times 8.0f is exact as well. */
        long tells(int i) {
            return isOfReals() ? (long) (reals[i] * 8.0) : wholes[i];
        }

        int total() {
            int total = 0;
            for (int i = 0; i < cells; i++) {
                total += (int) tells(i);
            }
            return total;
        }

        /** The first cell whose number the other kind can't tell just as it is; how many cells, if there is none. */
        int firstNotIn(int otherKind) {
            int i = 0;
            while (i < cells && (isOfReals() ? realFits(reals[i], otherKind) : wholeFits(wholes[i], otherKind))) {
                i++;
            }
            return i;
        }

        /** Only behind firstNotIn(): every cast is exact then. */
        void becomeKind(int otherKind) {
            boolean toReals = areReals(otherKind);
            for (int i = 0; i < cells; i++) {
                if (isOfReals() && !toReals) {
                    wholes[i] = (long) reals[i];
                } else if (!isOfReals() && toReals) {
                    reals[i] = (double) wholes[i];
                }
            }
            kind = otherKind;
        }

        /** Both are of one kind and have these cells; within one row the library copies as if by a copy laid aside. */
        void takeCells(Column source, int at, int to, int n) {
            System.arraycopy(source.wholes, at, wholes, to, n);
            System.arraycopy(source.reals, at, reals, to, n);
        }

        void becomeLike(Column other) {
            kind = other.kind;
            cells = other.cells;
            takeCells(other, 0, 0, MOST_CELLS);
        }

        boolean isSameAs(Column other) {
            if (kind != other.kind || cells != other.cells) {
                return false;
            }
            for (int i = 0; i < cells; i++) {
                if (isOfReals() ? reals[i] != other.reals[i] : wholes[i] != other.wholes[i]) {
                    return false;
                }
            }
            return true;
        }

        int countHeldHere() {
            int count = 0;
            if (isShelf()) {
                for (int i = 0; i < cells; i++) {
                    count += heldPart(i) == NONE ? 0 : 1;
                }
            }
            return count;
        }

        private static boolean areReals(int kind) {
            return kind == FLOATS || kind == DOUBLES;
        }

        private static long lowestBits(long v, int kind) {
            switch (kind) {
                case BYTES:
                    return (byte) v;
                case SHORTS:
                    return (short) v;
                case CHARS:
                    return (char) v;
                case INTS:
                    return (int) v;
                default:
                    return v;
            }
        }

        private static boolean wholeFits(long whole, int kind) {
            switch (kind) {
                case FLOATS:
                    return isJust((float) whole, whole);
                case DOUBLES:
                    return isJust((double) whole, whole);
                default:
                    return lowestBits(whole, kind) == whole;
            }
        }

        private static boolean realFits(double real, int kind) {
            switch (kind) {
                case FLOATS:
                    return (double) (float) real == real;
                case DOUBLES:
                    return true;
                default:
                    return isJust(real, (long) real) && wholeFits((long) real, kind);
            }
        }

        /** The greatest long counts as the double above it when one is cast to the other, so 2^63 is ruled out first. */
        private static boolean isJust(double real, long whole) {
            return real < 9223372036854775808.0 && (double) whole == real && (long) real == whole;
        }
    }

    /** Made with the object; it counts as a part from begin() on. */
    private static final class Part {
        private int sort = PLAIN;
        private int weight = 0;
        private int laid = 0;
        private int code = NONE;

        void begin(int newSort, int w) {
            sort = newSort;
            weight = w;
        }

        int weighed() {
            switch (sort) {
                case RIGID:
                    return weight + 3 * laid;
                case SOFT:
                    return weight / 2 + (laid + 1) / 2;
                default:
                    return weight;
            }
        }
    }
}
