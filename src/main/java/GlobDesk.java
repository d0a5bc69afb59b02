/** A value and a key: matched as patterns with stars, and compared by bytes, without case, or as numbers. */
public final class GlobDesk {
    private static final int MOST_BYTES = 100;
    private static final int MOST_BYTES_A_PUT = 8;

    private static final int VALUE = 0;
    private static final int KEY = 1;

    private static final int WITHOUT_CASE = 0;
    private static final int AS_NUMBERS = 2;

    private static final int IS = 0;
    private static final int CONTAINS = 1;
    private static final int LIKE = 2;

    private static final int BEGIN = 0;
    private static final int LENGTH = 1;

    private static final int GREATER = 0;
    private static final int GREATER_OR_LIKE = 1;
    private static final int LESS = 2;
    private static final int LESS_OR_LIKE = 3;
    private static final int SAME = 4;
    private static final int NOT_SAME = 5;

    private static final int NONE = -1;
    private static final int NO_ORDER = -2;

    // Marks of a pattern that are no bytes, so that no escaped byte can be taken for one.
    private static final int ANY_ONE = 256;
    private static final int STAR = 257;

    // Greater than every int: a number that reaches it need not be known any closer.
    private static final long BEYOND_INT = 10_000_000_000L;

    private final Row value = new Row();
    private final Row key = new Row();
    private final Pattern pattern = new Pattern();
    private final Spans found = new Spans();

    public GlobDesk() {
    }

    public boolean put(int which, long v, int n) {
        Row row = rowOf(which);
        return row != null && row.append(v, n);
    }

    public int clear(int which) {
        Row row = rowOf(which);
        if (row == null) {
            return NONE;
        }
        int had = row.length;
        row.length = 0;
        return had;
    }

    public int match(int match, int comparator) {
        if (match < IS || match > LIKE || !isComparator(comparator)) {
            return NONE;
        }
        found.length = 0;
        if (matches(match, comparator)) {
            return 1;
        }
        // A pattern that fails late has left the spans of its first stars.
        found.length = 0;
        return 0;
    }

    public int spans() {
        return found.length;
    }

    public int span(int i, int what) {
        if (what == BEGIN) {
            return found.beginOf(i);
        }
        if (what == LENGTH) {
            return found.lengthOf(i);
        }
        return NONE;
    }

    public int order(int comparator) {
        if (!isComparator(comparator)) {
            return NO_ORDER;
        }
        return standing(comparator);
    }

    public boolean counts(int many, int relation) {
        if (many < 0) {
            return false;
        }
        long number = key.numberUpTo(BEYOND_INT);
        switch (relation) {
            case GREATER:
                return many > number;
            case GREATER_OR_LIKE:
                return many >= number;
            case LESS:
                return many < number;
            case LESS_OR_LIKE:
                return many <= number;
            case SAME:
                return many == number;
            case NOT_SAME:
                return many != number;
            default:
                return false;
        }
    }

    public int byteAt(int which, int i) {
        Row row = rowOf(which);
        return row == null ? NONE : row.at(i);
    }

    public int size(int which) {
        Row row = rowOf(which);
        return row == null ? NONE : row.length;
    }

    private Row rowOf(int which) {
        if (which == VALUE) {
            return value;
        }
        return which == KEY ? key : null;
    }

    private static boolean isComparator(int comparator) {
        return comparator >= WITHOUT_CASE && comparator <= AS_NUMBERS;
    }

    private boolean matches(int match, int comparator) {
        if (match == IS) {
            return standing(comparator) == 0;
        }
        if (comparator == AS_NUMBERS) {
            return false;
        }
        return match == CONTAINS ? containsKey(comparator) : isLikeKey(comparator);
    }

    private boolean containsKey(int comparator) {
        pattern.readPlain(key);
        int place = firstPlace(0, pattern.length, 0, comparator);
        if (place == NONE) {
            return false;
        }
        found.append(place, pattern.length);
        return true;
    }

    /**
     * Between two stars the first place that fits is always right: what it leaves over, the later
     * star can take. Only what stands behind the last star is tied to the value's end.
     */
    private boolean isLikeKey(int comparator) {
        pattern.readStars(key);
        int end = pattern.starFrom(0);
        if (!fits(0, end, 0, comparator)) {
            return false;
        }
        int at = end;
        for (int star = 0; star < MOST_BYTES && end < pattern.length; star++) {
            int from = end + 1;
            end = pattern.starFrom(from);
            boolean isLast = end == pattern.length;
            int earliest = isLast ? Math.max(at, value.length - (end - from)) : at;
            int place = firstPlace(from, end, earliest, comparator);
            if (place == NONE) {
                return false;
            }
            found.append(at, place - at);
            at = place + (end - from);
        }
        return at == value.length;
    }

    /** The first place of the value, from earliest on, where the marks from .. end - 1 fit. */
    private int firstPlace(int from, int end, int earliest, int comparator) {
        int latest = value.length - (end - from);
        for (int place = earliest; place <= latest; place++) {
            if (fits(from, end, place, comparator)) {
                return place;
            }
        }
        return NONE;
    }

    private boolean fits(int from, int end, int place, int comparator) {
        if (end - from > value.length - place) {
            return false;
        }
        for (int i = from; i < end; i++) {
            int mark = pattern.at(i);
            int one = value.at(place + (i - from));
            if (mark != ANY_ONE && folded(mark, comparator) != folded(one, comparator)) {
                return false;
            }
        }
        return true;
    }

    private int standing(int comparator) {
        return comparator == AS_NUMBERS ? standingAsNumbers() : standingAsBytes(comparator);
    }

    private int standingAsBytes(int comparator) {
        int both = Math.min(value.length, key.length);
        for (int i = 0; i < both; i++) {
            int sign = signOf(folded(value.at(i), comparator), folded(key.at(i), comparator));
            if (sign != 0) {
                return sign;
            }
        }
        return signOf(value.length, key.length);
    }

    /** Rows hold more digits than a long, so the numbers are compared digit by digit. */
    private int standingAsNumbers() {
        int valueEnd = value.digits();
        int keyEnd = key.digits();
        if (valueEnd == 0 || keyEnd == 0) {
            return signOf(valueEnd == 0 ? 1 : 0, keyEnd == 0 ? 1 : 0);
        }
        int valueFrom = value.zerosBefore(valueEnd);
        int keyFrom = key.zerosBefore(keyEnd);
        int many = valueEnd - valueFrom;
        int sign = signOf(many, keyEnd - keyFrom);
        for (int i = 0; i < many && sign == 0; i++) {
            sign = signOf(value.at(valueFrom + i), key.at(keyFrom + i));
        }
        return sign;
    }

    private static int signOf(int a, int b) {
        if (a < b) {
            return -1;
        }
        return a > b ? 1 : 0;
    }

    private static int folded(int one, int comparator) {
        boolean isSmall = one >= 'a' && one <= 'z';
        return comparator == WITHOUT_CASE && isSmall ? one - 'a' + 'A' : one;
    }

    /** The value or the key. */
    private static final class Row {
        private final int[] bytes = new int[MOST_BYTES];
        private int length = 0;

        boolean append(long v, int n) {
            if (n < 1 || n > MOST_BYTES_A_PUT || n > bytes.length - length) {
                return false;
            }
            for (int i = n - 1; i >= 0; i--) {
                bytes[length] = (int) (v >>> (8 * i)) & 255;
                length++;
            }
            return true;
        }

        int at(int i) {
            return i >= 0 && i < length ? bytes[i] : NONE;
        }

        /** How many digits it begins with. */
        int digits() {
            int many = 0;
            while (many < length && bytes[many] >= '0' && bytes[many] <= '9') {
                many++;
            }
            return many;
        }

        /** How many zeros it begins with, of its first end bytes. */
        int zerosBefore(int end) {
            int many = 0;
            while (many < end && at(many) == '0') {
                many++;
            }
            return many;
        }

        /** The number it begins with, or most if it is greater or if there are no digits. */
        long numberUpTo(long most) {
            int end = digits();
            if (end == 0) {
                return most;
            }
            long number = 0;
            for (int i = 0; i < end; i++) {
                number = Math.min(most, number * 10 + (at(i) - '0'));
            }
            return number;
        }
    }

    /** The key's marks, one for each byte of the value that it asks for, and one for each star. */
    private static final class Pattern {
        private final int[] marks = new int[MOST_BYTES];
        private int length = 0;

        void readPlain(Row row) {
            length = 0;
            for (int i = 0; i < row.length; i++) {
                append(row.at(i));
            }
        }

        void readStars(Row row) {
            length = 0;
            for (int i = 0; i < row.length; i++) {
                int one = row.at(i);
                if (one == '\\' && i + 1 < row.length) {
                    i++;
                    append(row.at(i));
                } else if (one == '*') {
                    append(STAR);
                } else {
                    append(one == '?' ? ANY_ONE : one);
                }
            }
        }

        int at(int i) {
            return i >= 0 && i < length ? marks[i] : NONE;
        }

        /** Where the first star from that mark on stands; the length if there is none. */
        int starFrom(int from) {
            int i = from;
            while (i < length && at(i) != STAR) {
                i++;
            }
            return i;
        }

        private void append(int mark) {
            if (length < marks.length) {
                marks[length] = mark;
                length++;
            }
        }
    }

    /** The spans of the last match, kept apart from the rows, which may change after it. */
    private static final class Spans {
        private final int[] begins = new int[MOST_BYTES];
        private final int[] lengths = new int[MOST_BYTES];
        private int length = 0;

        void append(int begin, int many) {
            if (length < begins.length) {
                begins[length] = begin;
                lengths[length] = many;
                length++;
            }
        }

        int beginOf(int i) {
            return i >= 0 && i < length ? begins[i] : NONE;
        }

        int lengthOf(int i) {
            return i >= 0 && i < length ? lengths[i] : NONE;
        }
    }
}
