/** What the spans are, one method for each sentence. */
public final class TermsSpansTest {
    private static final int CONTAINS = 1;
    private static final int LIKE = 2;
    private static final Due due = new Due();

    public static void main(String[] args) {
        whereTheKeyStandsFirst();
        eachStarsBytes();
        firstStarFewest();
        thenTheSecond();
        due.end();
    }

    private static void whereTheKeyStandsFirst() {
        due.sentence("Terms", "SPANS: of contains where the key stands first.");
        due.spansOf(CONTAINS, 1, "ababab", "ab", 0, 2);
        due.spansOf(CONTAINS, 1, "xababab", "ab", 1, 2);
        due.spansOf(CONTAINS, 1, "aaaa", "aa", 0, 2);
        due.spansOf(CONTAINS, 1, "aaab", "aab", 1, 3);
        due.spansOf(CONTAINS, 1, "xABab", "ab", 3, 2);
        due.spansOf(CONTAINS, 0, "xABab", "ab", 1, 2);
        due.spansOf(CONTAINS, 0, "hello", "LL", 2, 2);
        due.spansOf(CONTAINS, 1, "hello", "hello", 0, 5);
        due.spansOf(CONTAINS, 1, "hello", "o", 4, 1);
        due.spansOf(CONTAINS, 1, "hello", "", 0, 0);
        due.spansOf(CONTAINS, 0, "", "", 0, 0);
        due.spansOf(CONTAINS, 1, "a*b", "*", 1, 1);
        due.spansOf(CONTAINS, 1, "a**b", "**", 1, 2);
        due.spansOf(CONTAINS, 1, "x".repeat(99) + "y", "y", 99, 1);
        due.spansOf(CONTAINS, 1, "x".repeat(100), "x".repeat(100), 0, 100);
        due.spansOf(CONTAINS, 1, "x".repeat(100), "", 0, 0);
    }

    private static void eachStarsBytes() {
        due.sentence("Terms", "Of like each star's bytes");
        due.spansOf(LIKE, 1, "", "");
        due.spansOf(LIKE, 1, "abc", "abc");
        due.spansOf(LIKE, 1, "abc", "???");
        due.spansOf(LIKE, 1, "a*c", "a\\*c");
        due.spansOf(LIKE, 1, "a*c", "*\\**", 0, 1, 2, 1);
        due.spansOf(LIKE, 0, "hello", "h*l?", 1, 2);
        due.spansOf(LIKE, 0, "", "*", 0, 0);
        due.spansOf(LIKE, 1, "abc", "a*bc", 1, 0);
        due.spansOf(LIKE, 1, "abc", "abc*", 3, 0);
        due.spansOf(LIKE, 1, "abc", "*abc", 0, 0);
        due.spansOf(LIKE, 1, "abc", "*a*b*c*", 0, 0, 1, 0, 2, 0, 3, 0);
        due.spansOf(LIKE, 1, "abcd", "?*?", 1, 2);
        due.spansOf(LIKE, 1, "\\x", "\\\\*", 1, 1);
        due.spansOf(LIKE, 1, "a".repeat(100), "*", 0, 100);
        due.spansOf(LIKE, 1, "", "*".repeat(100), new int[200]);
        int[] lastHasAll = new int[200];
        lastHasAll[199] = 100;
        due.spansOf(LIKE, 1, "a".repeat(100), "*".repeat(100), lastHasAll);
    }

    private static void firstStarFewest() {
        due.sentence("Terms", "of all ways the one in which the first star has the fewest");
        due.spansOf(LIKE, 1, "a", "**", 0, 0, 0, 1);
        due.spansOf(LIKE, 1, "abcabc", "*b*", 0, 1, 2, 4);
        due.spansOf(LIKE, 1, "abcabc", "*c", 0, 5);
        due.spansOf(LIKE, 1, "abcabc", "*b*c", 0, 1, 2, 3);
        due.spansOf(LIKE, 0, "aXbXc", "*x*", 0, 1, 2, 3);
        due.spansOf(LIKE, 1, "aXbxc", "*x*", 0, 3, 4, 1);
        due.spansOf(LIKE, 1, "abab", "*ab", 0, 2);
        due.spansOf(LIKE, 1, "aaab", "*aab*", 0, 1, 4, 0);
        due.spansOf(LIKE, 1, "ababac", "*aba*", 0, 0, 3, 3);
        due.spansOf(LIKE, 1, "abcd", "*?*", 0, 0, 1, 3);
        due.spansOf(LIKE, 1, "a*b*c", "*\\**", 0, 1, 2, 3);
        due.spansOf(LIKE, 1, "aab", "*a*b", 0, 0, 1, 1);
    }

    private static void thenTheSecond() {
        due.sentence("Terms", "then the second one, and so on");
        due.spansOf(LIKE, 1, "abc", "***", 0, 0, 0, 0, 0, 3);
        due.spansOf(LIKE, 1, "abc", "a**c", 1, 0, 1, 1);
        due.spansOf(LIKE, 1, "abcd", "*??*d", 0, 0, 2, 1);
        due.spansOf(LIKE, 1, "xaybzab", "*a*b*ab", 0, 1, 2, 1, 4, 1);
        due.spansOf(LIKE, 1, "xaybzbzb", "*a*b*", 0, 1, 2, 1, 4, 4);
        due.spansOf(LIKE, 1, "xaybzbzb", "*a*b*b", 0, 1, 2, 1, 4, 3);
        due.spansOf(LIKE, 1, "abcabc", "*a*c*", 0, 0, 1, 1, 3, 3);
        int[] lastHasRest = new int[100];
        for (int i = 0; i < 50; i++) {
            lastHasRest[2 * i] = i;
        }
        lastHasRest[99] = 50;
        due.spansOf(LIKE, 1, "a".repeat(100), "*a".repeat(50), lastHasRest);
    }
}
