/** Promise 6: span. */
public final class Promise06SpanTest {
    private static final Due due = new Due();

    private static void check(String value, String key, int match, int comparator, int... want) {
        GlobDesk desk = Due.desk(value, key);
        String call = "'" + value + "' match(" + match + ", " + comparator + ") '" + key + "'";
        due.same(call, desk.match(match, comparator), 1);
        due.spans(call, desk, want);
    }

    public static void main(String[] args) {
        contains();
        fewestBytes();
        emptySpans();
        manySpans();
        wrongInputs();
        due.end();
    }

    private static void contains() {
        check("hello", "LL", 1, 0, 2, 2);
        check("ababab", "ab", 1, 1, 0, 2);
        check("xABab", "ab", 1, 1, 3, 2);
        check("xABab", "ab", 1, 0, 1, 2);
        check("hello", "", 1, 1, 0, 0);
        check("", "", 1, 0, 0, 0);
        check("hello", "hello", 1, 1, 0, 5);
        check("hello", "o", 1, 1, 4, 1);
        check("a*b", "*", 1, 1, 1, 1);
        check("x".repeat(99) + "y", "y", 1, 1, 99, 1);
    }

    private static void fewestBytes() {
        check("hello", "h*l?", 2, 0, 1, 2);
        check("abcabc", "*b*", 2, 1, 0, 1, 2, 4);
        check("abcabc", "*c", 2, 1, 0, 5);
        check("abcabc", "*b*c", 2, 1, 0, 1, 2, 3);
        check("aXbXc", "*x*", 2, 0, 0, 1, 2, 3);
        check("aXbxc", "*x*", 2, 1, 0, 3, 4, 1);
        check("abab", "*ab", 2, 1, 0, 2);
        check("aaab", "*aab*", 2, 1, 0, 1, 4, 0);
        check("ababac", "*aba*", 2, 1, 0, 0, 3, 3);
        check("abcd", "*?*", 2, 1, 0, 0, 1, 3);
        check("abcd", "?*?", 2, 1, 1, 2);
        check("abcd", "*??*d", 2, 1, 0, 0, 2, 1);
        check("a*b*c", "*\\**", 2, 1, 0, 1, 2, 3);
        check("aab", "*a*b", 2, 1, 0, 0, 1, 1);
        check("xaybzab", "*a*b*ab", 2, 1, 0, 1, 2, 1, 4, 1);
    }

    private static void emptySpans() {
        check("", "*", 2, 0, 0, 0);
        check("a", "**", 2, 1, 0, 0, 0, 1);
        check("abc", "***", 2, 1, 0, 0, 0, 0, 0, 3);
        check("abc", "a*bc", 2, 1, 1, 0);
        check("abc", "abc*", 2, 1, 3, 0);
        check("abc", "*abc", 2, 1, 0, 0);
        check("abc", "*a*b*c*", 2, 1, 0, 0, 1, 0, 2, 0, 3, 0);
        check("abc", "a**c", 2, 1, 1, 0, 1, 1);
    }

    private static void manySpans() {
        int[] want = new int[200];
        want[199] = 100;
        check("a".repeat(100), "*".repeat(100), 2, 1, want);
        int[] each = new int[100];
        for (int i = 0; i < 50; i++) {
            each[2 * i] = i;
        }
        each[99] = 50;
        check("a".repeat(100), "*a".repeat(50), 2, 1, each);
        check("a".repeat(100), "*", 2, 1, 0, 100);
    }

    private static void wrongInputs() {
        GlobDesk desk = Due.desk("hello", "*l*");
        due.same("before any match", desk.span(0, 0), -1);
        desk.match(2, 0);
        int[] wrong = {-1, 2, 3, 100, Integer.MIN_VALUE, Integer.MAX_VALUE};
        for (int bad : wrong) {
            due.same("span(" + bad + ", 0)", desk.span(bad, 0), -1);
            due.same("span(" + bad + ", 1)", desk.span(bad, 1), -1);
            due.same("span(0, " + bad + ")", desk.span(0, bad), -1);
            due.same("span(1, " + bad + ")", desk.span(1, bad), -1);
            due.same("span(" + bad + ", " + bad + ")", desk.span(bad, bad), -1);
        }
        due.spans("after wrong inputs", desk, 0, 2, 3, 2);
        desk.match(0, 1);
        due.same("after a match that is 0", desk.span(0, 0), -1);
        due.same("after a match that is 0", desk.span(0, 1), -1);
        Due.refill(desk, 1, "hello");
        desk.match(0, 1);
        due.same("is has none", desk.span(0, 0), -1);
        Due.refill(desk, 1, "h*l*x");
        desk.match(2, 1);
        due.same("a pattern that fails late", desk.span(0, 0), -1);
        due.same("a pattern that fails late", desk.span(0, 1), -1);
    }
}
