/** The three matches, one method for each sentence; the answers stand by comparators 0, 1 and 2. */
public final class TermsMatchesTest {
    private static final int IS = 0;
    private static final int CONTAINS = 1;
    private static final int LIKE = 2;
    private static final Due due = new Due();

    public static void main(String[] args) {
        is();
        isTheSameNumber();
        isBothWithoutDigits();
        contains();
        containsAsNumbers();
        star();
        one();
        escape();
        escapeAsLast();
        others();
        usedUp();
        likeAsNumbers();
        due.end();
    }

    private static void is() {
        due.sentence("Terms", "0 is: they are the same (by the comparator");
        due.match(IS, "", "", 1, 1, 1);
        due.match(IS, "abc", "abc", 1, 1, 1);
        due.match(IS, "aBc", "AbC", 1, 0, 1);
        due.match(IS, "azAZ", "AZaz", 1, 0, 1);
        due.match(IS, "abc", "ab", 0, 0, 1);
        due.match(IS, "ab", "abc", 0, 0, 1);
        due.match(IS, "abc", "abd", 0, 0, 1);
        due.match(IS, "", "a", 0, 0, 1);
        due.match(IS, "a", "", 0, 0, 1);
        due.match(IS, "", "\0", 0, 0, 1);
        due.match(IS, "abc", "a*", 0, 0, 1);
        due.match(IS, "a", "?", 0, 0, 1);
        due.match(IS, "a", "\\a", 0, 0, 1);
        due.match(IS, "x".repeat(99), "x".repeat(100), 0, 0, 1);
        due.match(IS, "x".repeat(99) + "y", "x".repeat(100), 0, 0, 1);
    }

    private static void isTheSameNumber() {
        due.sentence("Terms", "as numbers: the same number");
        due.match(IS, "7", "7", 1, 1, 1);
        due.match(IS, "007", "7x", 0, 0, 1);
        due.match(IS, "7", "8", 0, 0, 0);
        due.match(IS, "0", "000", 0, 0, 1);
        due.match(IS, "12.5", "12.75", 0, 0, 1);
        due.match(IS, "12 3", "123", 0, 0, 0);
        due.match(IS, "10", "100", 0, 0, 0);
        due.match(IS, "4294967296", "0", 0, 0, 0);
        due.match(IS, "18446744073709551616", "0", 0, 0, 0);
        due.match(IS, "1/", "1:", 0, 0, 1);
        due.match(IS, "0".repeat(99) + "7", "7", 0, 0, 1);
        due.match(IS, "9".repeat(100), "9".repeat(100), 1, 1, 1);
        due.match(IS, "9".repeat(99) + "8", "9".repeat(100), 0, 0, 0);
    }

    private static void isBothWithoutDigits() {
        due.sentence("Terms", "or both without digits");
        due.match(IS, "", "", 1, 1, 1);
        due.match(IS, "", "x", 0, 0, 1);
        due.match(IS, "x1", "y2", 0, 0, 1);
        due.match(IS, "-1", "+2", 0, 0, 1);
        due.match(IS, "/", ":", 0, 0, 1);
        due.match(IS, "x1", "1", 0, 0, 0);
        due.match(IS, " 1", "1", 0, 0, 0);
        due.match(IS, "0", "", 0, 0, 0);
        due.match(IS, "", "0", 0, 0, 0);
        due.match(IS, "9".repeat(100), "", 0, 0, 0);
    }

    private static void contains() {
        due.sentence("Terms", "1 contains: the key stands somewhere in the value");
        due.match(CONTAINS, "hello", "he", 1, 1);
        due.match(CONTAINS, "hello", "ell", 1, 1);
        due.match(CONTAINS, "hello", "lo", 1, 1);
        due.match(CONTAINS, "hello", "ELL", 1, 0);
        due.match(CONTAINS, "hello", "hello", 1, 1);
        due.match(CONTAINS, "hello", "hello!", 0, 0);
        due.match(CONTAINS, "hello", "le", 0, 0);
        due.match(CONTAINS, "hello", "lox", 0, 0);
        due.match(CONTAINS, "hello", "", 1, 1);
        due.match(CONTAINS, "", "", 1, 1);
        due.match(CONTAINS, "", "a", 0, 0);
        due.match(CONTAINS, "aaab", "aab", 1, 1);
        due.match(CONTAINS, "hello", "h*o", 0, 0);
        due.match(CONTAINS, "hello", "?", 0, 0);
        due.match(CONTAINS, "a*b?\\c", "*b?\\", 1, 1);
        due.match(CONTAINS, "a*b", "\\*", 0, 0);
        due.match(CONTAINS, "x[y", "{", 0, 0);
        due.match(CONTAINS, "x".repeat(99) + "y", "y", 1, 1);
        due.match(CONTAINS, "x".repeat(99), "x".repeat(100), 0, 0);
        due.match(CONTAINS, "x".repeat(100), "x".repeat(100), 1, 1);
        due.match(CONTAINS, "x".repeat(100), "", 1, 1);
    }

    private static void never(int match) {
        due.match(match, "", "", 1, 1, 0);
        due.match(match, "7", "7", 1, 1, 0);
        due.match(match, "007", "7", match == CONTAINS ? 1 : 0, match == CONTAINS ? 1 : 0, 0);
        due.match(match, "abc", "abc", 1, 1, 0);
        due.match(match, "9".repeat(100), "9".repeat(100), 1, 1, 0);
    }

    private static void containsAsNumbers() {
        due.sentence("Terms", "1 contains: the key stands somewhere in the value (as numbers: never)");
        never(CONTAINS);
        due.match(CONTAINS, "123", "2", 1, 1, 0);
        due.match(CONTAINS, "123", "", 1, 1, 0);
    }

    private static void star() {
        due.sentence("Terms", "* stands for any bytes, also none");
        due.match(LIKE, "", "*", 1, 1);
        due.match(LIKE, "", "***", 1, 1);
        due.match(LIKE, "", "*".repeat(100), 1, 1);
        due.match(LIKE, "a", "*", 1, 1);
        due.match(LIKE, "a".repeat(100), "*", 1, 1);
        due.match(LIKE, "*?\\\0\u00ff", "*", 1, 1);
        due.match(LIKE, "abc", "abc*", 1, 1);
        due.match(LIKE, "abc", "*abc", 1, 1);
        due.match(LIKE, "abc", "a*bc", 1, 1);
        due.match(LIKE, "abc", "a*c", 1, 1);
        due.match(LIKE, "abc", "a*", 1, 1);
        due.match(LIKE, "abc", "*c", 1, 1);
        due.match(LIKE, "abc", "*B*", 1, 0);
        due.match(LIKE, "a\u00ffb", "a*b", 1, 1);
        due.match(LIKE, "aab", "*ab", 1, 1);
        due.match(LIKE, "abab", "*ab", 1, 1);
        due.match(LIKE, "xaxbxc", "*a*b*c", 1, 1);
        due.match(LIKE, "xaxcxb", "*a*b*c", 0, 0);
        due.match(LIKE, "ab", "ab*b", 0, 0);
        due.match(LIKE, "abc", "ab*bc", 0, 0);
        due.match(LIKE, "aba", "aba*aba", 0, 0);
        due.match(LIKE, "a".repeat(100), "*a".repeat(50), 1, 1);
        due.match(LIKE, "a".repeat(49), "*a".repeat(50), 0, 0);
        due.match(LIKE, "a".repeat(100), "*a".repeat(49) + "*b", 0, 0);
    }

    private static void one() {
        due.sentence("Terms", "? for one");
        due.match(LIKE, "", "?", 0, 0);
        due.match(LIKE, "a", "?", 1, 1);
        due.match(LIKE, "ab", "?", 0, 0);
        due.match(LIKE, "abc", "a?c", 1, 1);
        due.match(LIKE, "ac", "a?c", 0, 0);
        due.match(LIKE, "abc", "???", 1, 1);
        due.match(LIKE, "abc", "????", 0, 0);
        due.match(LIKE, "abc", "??", 0, 0);
        due.match(LIKE, "a\0b", "a?b", 1, 1);
        due.match(LIKE, "a\u00ffb", "a?b", 1, 1);
        due.match(LIKE, "a*b", "a?b", 1, 1);
        due.match(LIKE, "ab", "*?*?*", 1, 1);
        due.match(LIKE, "a", "*?*?*", 0, 0);
        due.match(LIKE, "ababc", "*ab?", 1, 1);
        due.match(LIKE, "a", "a?", 0, 0);
        due.match(LIKE, "a".repeat(100), "?".repeat(100), 1, 1);
        due.match(LIKE, "a".repeat(100), "?".repeat(99), 0, 0);
        due.match(LIKE, "a".repeat(99), "?".repeat(100), 0, 0);
    }

    private static void escape() {
        due.sentence("Terms", "\\ for the byte behind it as itself");
        due.match(LIKE, "*", "\\*", 1, 1);
        due.match(LIKE, "a", "\\*", 0, 0);
        due.match(LIKE, "", "\\*", 0, 0);
        due.match(LIKE, "\\*", "\\*", 0, 0);
        due.match(LIKE, "?", "\\?", 1, 1);
        due.match(LIKE, "a", "\\?", 0, 0);
        due.match(LIKE, "\\", "\\\\", 1, 1);
        due.match(LIKE, "\\\\", "\\\\", 0, 0);
        due.match(LIKE, "\\anything", "\\\\*", 1, 1);
        due.match(LIKE, "\\*", "\\\\\\*", 1, 1);
        due.match(LIKE, "\\a", "\\\\\\*", 0, 0);
        due.match(LIKE, "a", "\\a", 1, 1);
        due.match(LIKE, "A", "\\a", 1, 0);
        due.match(LIKE, "a", "\\A", 1, 0);
        due.match(LIKE, "\\a", "\\a", 0, 0);
        due.match(LIKE, "a*c", "a\\*c", 1, 1);
        due.match(LIKE, "abc", "a\\*c", 0, 0);
        due.match(LIKE, "n", "\\n", 1, 1);
        due.match(LIKE, "\0", "\\\0", 1, 1);
        due.match(LIKE, "\u00ff", "\\\u00ff", 1, 1);
        due.match(LIKE, "a".repeat(50), "\\a".repeat(50), 1, 1);
        due.match(LIKE, "*".repeat(50), "\\*".repeat(50), 1, 1);
        due.match(LIKE, "*".repeat(49), "\\*".repeat(50), 0, 0);
    }

    private static void escapeAsLast() {
        due.sentence("Terms", "(as the last byte it is itself)");
        due.match(LIKE, "\\", "\\", 1, 1);
        due.match(LIKE, "", "\\", 0, 0);
        due.match(LIKE, "a", "\\", 0, 0);
        due.match(LIKE, "\\\\", "\\", 0, 0);
        due.match(LIKE, "a\\", "a\\", 1, 1);
        due.match(LIKE, "a", "a\\", 0, 0);
        due.match(LIKE, "abc\\", "*\\", 1, 1);
        due.match(LIKE, "abc", "*\\", 0, 0);
        due.match(LIKE, "a\\", "?\\", 1, 1);
        due.match(LIKE, "\\\\", "\\\\\\", 1, 1);
        due.match(LIKE, "\\", "\\\\\\", 0, 0);
        due.match(LIKE, "*\\", "\\*\\", 1, 1);
        due.match(LIKE, "x".repeat(99) + "\\", "x".repeat(99) + "\\", 1, 1);
        due.match(LIKE, "*".repeat(49) + "\\", "\\*".repeat(49) + "\\", 1, 1);
        due.match(LIKE, "\\".repeat(50), "\\".repeat(99), 1, 1);
        due.match(LIKE, "\\".repeat(50), "\\".repeat(100), 1, 1);
    }

    /** Every byte but * and ? is like itself alone, also the signs of other kinds of patterns. */
    private static void others() {
        due.sentence("Terms", "others for themselves");
        for (int b = 0; b < 256; b++) {
            if (b != '*' && b != '?') {
                GlobDesk desk = new GlobDesk();
                desk.put(1, b, 1);
                desk.put(0, b, 1);
                due.same("like itself: " + b, desk.match(2, 1), 1);
                desk.clear(0);
                desk.put(0, b ^ 1, 1);
                due.same("like its neighbour: " + b, desk.match(2, 1), 0);
                due.same("without case like its neighbour: " + b, desk.match(2, 0), 0);
                desk.clear(0);
                due.same("like none: " + b, desk.match(2, 1), 0);
                desk.put(0, (long) b << 8 | b, 2);
                due.same("like two: " + b, desk.match(2, 1), 0);
            }
        }
        due.match(LIKE, "a", "[a]", 0, 0);
        due.match(LIKE, "abc", ".*", 0, 0);
        due.match(LIKE, "abc", "%", 0, 0);
        due.match(LIKE, "a", "_", 0, 0);
        due.match(LIKE, "abc", "ABC", 1, 0);
    }

    private static void usedUp() {
        due.sentence("Terms", "all of the value must be used up");
        due.match(LIKE, "", "", 1, 1);
        due.match(LIKE, "a", "", 0, 0);
        due.match(LIKE, "\0", "", 0, 0);
        due.match(LIKE, "abc", "abc", 1, 1);
        due.match(LIKE, "abc", "ab", 0, 0);
        due.match(LIKE, "abc", "bc", 0, 0);
        due.match(LIKE, "ab", "abc", 0, 0);
        due.match(LIKE, "abc", "*b", 0, 0);
        due.match(LIKE, "abc", "b*", 0, 0);
        due.match(LIKE, "abcb", "*b", 1, 1);
        due.match(LIKE, "abcbx", "*b", 0, 0);
        due.match(LIKE, "abcbx", "a*b", 0, 0);
        due.match(LIKE, "x".repeat(100), "x".repeat(99), 0, 0);
        due.match(LIKE, "x".repeat(99) + "y", "*x", 0, 0);
        due.match(LIKE, "x".repeat(100), "", 0, 0);
    }

    private static void likeAsNumbers() {
        due.sentence("Terms", "all of the value must be used up (as numbers: never)");
        never(LIKE);
        due.match(LIKE, "123", "*", 1, 1, 0);
        due.match(LIKE, "", "*", 1, 1, 0);
        due.match(LIKE, "1", "?", 1, 1, 0);
    }
}
