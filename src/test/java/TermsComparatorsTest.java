/** The comparators and the order, one method for each sentence. */
public final class TermsComparatorsTest {
    private static final Due due = new Due();

    public static void main(String[] args) {
        withoutCase();
        noOthers();
        smallStandAsGreat();
        byteByByte();
        digitsItBeginsWith();
        asManyAsThereAre();
        withoutAny();
        firstDifference();
        everyPairOfBytes();
        beginsWith();
        byNumbers();
        due.end();
    }

    private static void withoutCase() {
        due.sentence("Terms", "0 without case: A .. Z are like a .. z");
        for (int i = 0; i < 26; i++) {
            String great = String.valueOf((char) ('A' + i));
            String small = String.valueOf((char) ('a' + i));
            for (int match = 0; match < 3; match++) {
                due.match(match, great, small, 1, 0);
                due.match(match, small, great, 1, 0);
            }
            due.order(0, great, small, 0);
        }
    }

    /** The bytes just outside the letters, and those that other alphabets fold. */
    private static void noOthers() {
        due.sentence("Terms", "A .. Z are like a .. z, no others");
        String[][] pairs = {
            {"@", "`"}, {"[", "{"}, {"\0", " "}, {"0", "P"}, {"_", "\u007f"}, {"\u00c0", "\u00e0"},
            {"\u00c1", "\u00e1"}, {"A", "\u00c1"}, {"A", "\u00e1"}, {"\u00df", "\u00ff"}, {"^", "~"},
        };
        for (String[] pair : pairs) {
            for (int match = 0; match < 3; match++) {
                due.match(match, pair[0], pair[1], 0, 0);
                due.match(match, pair[1], pair[0], 0, 0);
            }
            due.order(0, pair[0], pair[1], -1);
        }
    }

    private static void smallStandAsGreat() {
        due.sentence("Terms", "in order they stand as A .. Z (so _ stands behind them)");
        String[] between = {"[", "\\", "]", "^", "_", "`"};
        for (String mark : between) {
            due.order(0, "a", mark, -1);
            due.order(0, "z", mark, -1);
            due.order(0, "A", mark, -1);
            due.order(0, "Z", mark, -1);
            due.order(1, "a", mark, 1);
            due.order(1, "Z", mark, -1);
        }
        due.order(0, "a", "@", 1);
        due.order(0, "z", "{", -1);
        due.order(0, "Z", "{", -1);
        due.order(0, "a", "Z", -1);
        due.order(0, "A", "z", -1);
        due.order(0, "b", "A", 1);
    }

    private static void byteByByte() {
        due.sentence("Terms", "1 byte by byte");
        due.match(0, "abc", "abC", 1, 0);
        due.match(1, "xabcx", "ABC", 1, 0);
        due.match(2, "abc", "aB*", 1, 0);
        due.order(1, "a", "A", 1);
        due.order(1, "a", "Z", 1);
        due.order(1, "\u0080", "\u007f", 1);
        due.order(1, "\u00ff", "\0", 1);
    }

    private static void digitsItBeginsWith() {
        due.sentence("Terms", "2 as NUMBERS: the digits that a row begins with");
        due.order(2, "7", "7x", 0);
        due.order(2, "7", "7.5", 0);
        due.order(2, "12 3", "123", -1);
        due.order(2, "12 3", "12", 0);
        due.order(2, "5/9", "5", 0);
        due.order(2, "5:9", "5", 0);
        due.order(2, "1\0" + "2", "1", 0);
        due.order(2, "1\u00b2", "1", 0);
        due.order(2, "-5", "3", 1);
        due.order(2, " 5", "9", 1);
        due.order(2, "x1", "1", 1);
        for (int b = 0; b < 256; b++) {
            boolean isDigit = b >= '0' && b <= '9';
            due.order(2, String.valueOf((char) b), "9", isDigit ? Integer.compare(b, '9') : 1);
        }
    }

    private static void asManyAsThereAre() {
        due.sentence("Terms", "as many as there are");
        due.order(2, "9".repeat(100), "9".repeat(99) + "8", 1);
        due.order(2, "9".repeat(100), "9".repeat(100), 0);
        due.order(2, "1" + "0".repeat(99), "9".repeat(99), 1);
        due.order(2, "0".repeat(99) + "1", "0", 1);
        due.order(2, "0".repeat(99) + "1", "1", 0);
        due.order(2, "0".repeat(100), "0", 0);
        due.order(2, "256", "0", 1);
        due.order(2, "4294967296", "0", 1);
        due.order(2, "2147483648", "2147483647", 1);
        due.order(2, "9223372036854775808", "9223372036854775807", 1);
        due.order(2, "18446744073709551616", "0", 1);
        due.order(2, "18446744073709551617", "2", 1);
    }

    private static void withoutAny() {
        due.sentence("Terms", "without any greater than all numbers");
        String[] none = {"", "x", "x9", "-1", "+1", " 1", "/", ":", "\0", "\u00ff", "z".repeat(100)};
        for (String row : none) {
            due.order(2, row, "0", 1);
            due.order(2, row, "9".repeat(100), 1);
            due.order(2, row, "9223372036854775807", 1);
            due.order(2, row, "", 0);
        }
    }

    private static void firstDifference() {
        due.sentence("Terms", "ORDER: byte by byte by the comparator");
        due.order(0, "abcz", "abda", -1);
        due.order(1, "abcz", "abda", -1);
        due.order(0, "aBcZ", "AbDa", -1);
        due.order(1, "B", "aaa", -1);
        due.order(0, "B", "aaa", 1);
        due.order(1, "x".repeat(99) + "a", "x".repeat(99) + "b", -1);
        due.order(0, "x".repeat(99) + "a", "X".repeat(99) + "B", -1);
        due.order(0, "", "", 0);
        due.order(1, "", "", 0);
        due.order(1, "x".repeat(100), "x".repeat(100), 0);
        due.order(0, "x".repeat(100), "X".repeat(100), 0);
        due.order(1, "*", "?", -1);
    }

    private static void everyPairOfBytes() {
        due.sentence("Terms", "byte by byte by the comparator (0: a .. z as A .. Z)");
        for (int a = 0; a < 256; a++) {
            for (int b = 0; b < 256; b++) {
                GlobDesk desk = new GlobDesk();
                desk.put(0, a, 1);
                desk.put(1, b, 1);
                due.same("order(1) of " + a + " and " + b, desk.order(1), Integer.compare(a, b));
                due.same("order(0) of " + a + " and " + b, desk.order(0), Integer.compare(great(a), great(b)));
                due.same("match(0, 1) of " + a + " and " + b, desk.match(0, 1), a == b ? 1 : 0);
                due.same("match(0, 0) of " + a + " and " + b, desk.match(0, 0), great(a) == great(b) ? 1 : 0);
            }
        }
    }

    private static int great(int b) {
        int letter = "abcdefghijklmnopqrstuvwxyz".indexOf(b);
        return letter < 0 ? b : "ABCDEFGHIJKLMNOPQRSTUVWXYZ".charAt(letter);
    }

    private static void beginsWith() {
        due.sentence("Terms", "a row that the other one begins with ahead of it");
        for (int comparator = 0; comparator < 2; comparator++) {
            due.order(comparator, "", "a", -1);
            due.order(comparator, "", "\0", -1);
            due.order(comparator, "", "x".repeat(100), -1);
            due.order(comparator, "ab", "abc", -1);
            due.order(comparator, "ab", "ab\0", -1);
            due.order(comparator, "x".repeat(99), "x".repeat(100), -1);
            due.order(comparator, "007", "0070", -1);
        }
        due.order(0, "AB", "abc", -1);
        due.order(0, "ab", "ABC", -1);
        due.order(1, "ab", "ABC", 1);
    }

    private static void byNumbers() {
        due.sentence("Terms", "by 2 the numbers");
        due.order(2, "9", "10", -1);
        due.order(2, "100", "99", 1);
        due.order(2, "0100", "99", 1);
        due.order(2, "129", "130", -1);
        due.order(2, "007", "7x", 0);
        due.order(2, "0", "00", 0);
        due.order(2, "0x", "1", -1);
        due.order(2, "abc", "abd", 0);
        due.order(2, "1a", "1b", 0);
    }
}
