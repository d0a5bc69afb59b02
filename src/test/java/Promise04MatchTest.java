/** Promise 4: match, for each match by each comparator. */
public final class Promise04MatchTest {
    private static final Due due = new Due();

    public static void main(String[] args) {
        is();
        isAsNumbers();
        contains();
        like();
        escapes();
        everyByte();
        longRows();
        refusals();
        due.end();
    }

    /** The answers by comparators 0, 1 and 2. */
    private static void check(int match, String value, String key, int... want) {
        GlobDesk desk = Due.desk(value, key);
        for (int comparator = 0; comparator < want.length; comparator++) {
            String call = "'" + value + "' match(" + match + ", " + comparator + ") '" + key + "'";
            due.same(call, desk.match(match, comparator), want[comparator]);
        }
        due.row("after match", desk, 0, value);
        due.row("after match", desk, 1, key);
    }

    private static void is() {
        check(0, "", "", 1, 1, 1);
        check(0, "abc", "abc", 1, 1, 1);
        check(0, "aBc", "AbC", 1, 0, 1);
        check(0, "abc", "ab", 0, 0, 1);
        check(0, "ab", "abc", 0, 0, 1);
        check(0, "abc", "abd", 0, 0, 1);
        check(0, "", "a", 0, 0, 1);
        check(0, "abc", "a*", 0, 0, 1);
        check(0, "a", "?", 0, 0, 1);
        check(0, "a", "\\a", 0, 0, 1);
        check(0, "@[`{", "`{@[", 0, 0, 1);
        check(0, "azAZ", "AZaz", 1, 0, 1);
    }

    private static void isAsNumbers() {
        check(0, "7", "7", 1, 1, 1);
        check(0, "007", "7x", 0, 0, 1);
        check(0, "7", "8", 0, 0, 0);
        check(0, "0", "000", 0, 0, 1);
        check(0, "0", "", 0, 0, 0);
        check(0, "", "0", 0, 0, 0);
        check(0, "x1", "y2", 0, 0, 1);
        check(0, "x1", "1", 0, 0, 0);
        check(0, "-1", "+2", 0, 0, 1);
        check(0, " 1", "1", 0, 0, 0);
        check(0, "12.5", "12.75", 0, 0, 1);
        check(0, "12 3", "123", 0, 0, 0);
        check(0, "10", "100", 0, 0, 0);
        check(0, "4294967296", "0", 0, 0, 0);
        check(0, "18446744073709551616", "0", 0, 0, 0);
        check(0, "18446744073709551617", "1", 0, 0, 0);
        check(0, "/", ":", 0, 0, 1);
        check(0, "1/", "1:", 0, 0, 1);
    }

    private static void contains() {
        check(1, "hello", "ell", 1, 1, 0);
        check(1, "hello", "ELL", 1, 0, 0);
        check(1, "hello", "hello", 1, 1, 0);
        check(1, "hello", "hello!", 0, 0, 0);
        check(1, "hello", "", 1, 1, 0);
        check(1, "", "", 1, 1, 0);
        check(1, "", "a", 0, 0, 0);
        check(1, "hello", "lo", 1, 1, 0);
        check(1, "hello", "le", 0, 0, 0);
        check(1, "aaab", "aab", 1, 1, 0);
        check(1, "hello", "h*o", 0, 0, 0);
        check(1, "hello", "?", 0, 0, 0);
        check(1, "a*b?\\c", "*b?\\", 1, 1, 0);
        check(1, "a*b", "\\*", 0, 0, 0);
        check(1, "123", "2", 1, 1, 0);
        check(1, "7", "7", 1, 1, 0);
        check(1, "x[y", "{", 0, 0, 0);
    }

    private static void like() {
        check(2, "", "", 1, 1, 0);
        check(2, "a", "", 0, 0, 0);
        check(2, "", "a", 0, 0, 0);
        check(2, "", "?", 0, 0, 0);
        check(2, "", "*", 1, 1, 0);
        check(2, "", "***", 1, 1, 0);
        check(2, "7", "7", 1, 1, 0);
        check(2, "abc", "abc", 1, 1, 0);
        check(2, "abc", "ABC", 1, 0, 0);
        check(2, "abc", "ab", 0, 0, 0);
        check(2, "ab", "abc", 0, 0, 0);
        check(2, "abc", "a?c", 1, 1, 0);
        check(2, "ac", "a?c", 0, 0, 0);
        check(2, "abc", "???", 1, 1, 0);
        check(2, "abc", "????", 0, 0, 0);
        check(2, "abc", "??", 0, 0, 0);
        check(2, "abc", "*", 1, 1, 0);
        check(2, "abc", "a*", 1, 1, 0);
        check(2, "abc", "*c", 1, 1, 0);
        check(2, "abc", "*b", 0, 0, 0);
        check(2, "abc", "b*", 0, 0, 0);
        check(2, "abc", "*B*", 1, 0, 0);
        check(2, "abc", "abc*", 1, 1, 0);
        check(2, "abc", "*abc", 1, 1, 0);
        check(2, "abc", "ab*bc", 0, 0, 0);
        check(2, "aba", "aba*aba", 0, 0, 0);
        check(2, "aab", "*ab", 1, 1, 0);
        check(2, "abab", "*ab", 1, 1, 0);
        check(2, "ababc", "*ab?", 1, 1, 0);
        check(2, "ab", "*?*?*", 1, 1, 0);
        check(2, "a", "*?*?*", 0, 0, 0);
        check(2, "xaxbxc", "*a*b*c", 1, 1, 0);
        check(2, "xaxcxb", "*a*b*c", 0, 0, 0);
        check(2, "a\0b", "a?b", 1, 1, 0);
        check(2, "a\u00ffb", "a*b", 1, 1, 0);
    }

    private static void escapes() {
        check(2, "*", "\\*", 1, 1, 0);
        check(2, "a", "\\*", 0, 0, 0);
        check(2, "", "\\*", 0, 0, 0);
        check(2, "?", "\\?", 1, 1, 0);
        check(2, "a", "\\?", 0, 0, 0);
        check(2, "\\", "\\\\", 1, 1, 0);
        check(2, "\\\\", "\\\\", 0, 0, 0);
        check(2, "\\", "\\", 1, 1, 0);
        check(2, "", "\\", 0, 0, 0);
        check(2, "a", "\\", 0, 0, 0);
        check(2, "a\\", "a\\", 1, 1, 0);
        check(2, "\\\\", "\\\\\\", 1, 1, 0);
        check(2, "\\anything", "\\\\*", 1, 1, 0);
        check(2, "\\*", "\\\\\\*", 1, 1, 0);
        check(2, "a", "\\a", 1, 1, 0);
        check(2, "A", "\\a", 1, 0, 0);
        check(2, "a", "\\A", 1, 0, 0);
        check(2, "\\a", "\\a", 0, 0, 0);
        check(2, "abc\\", "*\\", 1, 1, 0);
        check(2, "a*c", "a\\*c", 1, 1, 0);
        check(2, "abc", "a\\*c", 0, 0, 0);
        check(2, "n", "\\n", 1, 1, 0);
        check(2, "\u00ff", "\\\u00ff", 1, 1, 0);
    }

    private static boolean areLetters(int a, int b) {
        return Math.abs(a - b) == 32 && Math.min(a, b) >= 'A' && Math.min(a, b) <= 'Z';
    }

    private static void everyByte() {
        for (int a = 0; a < 256; a++) {
            for (int b = 0; b < 256; b += 4) {
                GlobDesk other = new GlobDesk();
                other.put(0, a, 1);
                for (int c = b; c < b + 4; c++) {
                    other.clear(1);
                    other.put(1, c, 1);
                    int bytes = a == c ? 1 : 0;
                    int letters = a == c || areLetters(a, c) ? 1 : 0;
                    String call = "byte " + a + " and " + c;
                    due.same(call, other.match(0, 0), letters);
                    due.same(call, other.match(0, 1), bytes);
                    due.same(call, other.match(1, 0), letters);
                    due.same(call, other.match(1, 1), bytes);
                    boolean wild = c == '*' || c == '?';
                    due.same(call, other.match(2, 0), wild ? 1 : letters);
                    due.same(call, other.match(2, 1), wild ? 1 : bytes);
                }
            }
        }
    }

    private static void longRows() {
        String as = "a".repeat(100);
        check(0, as, as, 1, 1, 1);
        check(1, as, as, 1, 1, 0);
        check(2, as, as, 1, 1, 0);
        check(2, as, "*".repeat(100), 1, 1, 0);
        check(2, as, "?".repeat(100), 1, 1, 0);
        check(2, as, "?".repeat(99), 0, 0, 0);
        check(2, as, "*a".repeat(50), 1, 1, 0);
        check(2, as, "*a".repeat(49) + "*b", 0, 0, 0);
        check(2, "a".repeat(50), "\\a".repeat(50), 1, 1, 0);
        check(2, "*".repeat(49) + "\\", "\\*".repeat(49) + "\\", 1, 1, 0);
        check(0, "0".repeat(99) + "7", "7", 0, 0, 1);
        check(0, "9".repeat(100), "9".repeat(100), 1, 1, 1);
        check(0, "9".repeat(99) + "8", "9".repeat(100), 0, 0, 0);
    }

    private static void refusals() {
        GlobDesk desk = Due.desk("hello", "h*o");
        due.same("match(2, 0)", desk.match(2, 0), 1);
        int[] wrong = {-1, 3, 4, Integer.MIN_VALUE, Integer.MAX_VALUE};
        for (int bad : wrong) {
            due.same("match(" + bad + ", 0)", desk.match(bad, 0), -1);
            due.same("match(0, " + bad + ")", desk.match(0, bad), -1);
            due.same("match(1, " + bad + ")", desk.match(1, bad), -1);
            due.same("match(2, " + bad + ")", desk.match(2, bad), -1);
            due.same("match(" + bad + ", " + bad + ")", desk.match(bad, bad), -1);
            due.same("match(" + bad + ", 2)", desk.match(bad, 2), -1);
        }
        due.spans("after refusals", desk, 1, 3);
        due.row("after refusals", desk, 0, "hello");
        due.row("after refusals", desk, 1, "h*o");
    }
}
