/** Promise 4: match; what the three matches are stands in TermsMatchesTest. */
public final class Promise04MatchTest {
    private static final Due due = new Due();

    public static void main(String[] args) {
        oneOrZero();
        everyByte();
        wrongMatch();
        wrongComparator();
        refused();
        due.end();
    }

    private static void oneOrZero() {
        due.sentence("Promise 4", "Whether the value matches the key: 1 or 0");
        due.match(0, "abc", "ABC", 1, 0, 1);
        due.match(1, "xabcx", "ABC", 1, 0, 0);
        due.match(2, "xabcx", "*B*", 1, 0, 0);
        due.match(0, "", "", 1, 1, 1);
        due.match(1, "", "", 1, 1, 0);
        due.match(2, "", "", 1, 1, 0);
        GlobDesk desk = due.desk("hello", "h*o");
        for (int round = 0; round < 3; round++) {
            due.same("asked again", desk.match(2, 1), 1);
            due.same("another between", desk.match(0, 1), 0);
        }
        desk.put(0, 'x', 1);
        due.same("the rows as they are now", desk.match(2, 1), 0);
        desk.put(1, 'x', 1);
        due.same("the rows as they are now", desk.match(2, 1), 1);
    }

    private static boolean areLetters(int a, int b) {
        return Math.abs(a - b) == 32 && Math.min(a, b) >= 'A' && Math.min(a, b) <= 'Z';
    }

    private static void everyByte() {
        due.sentence("Promise 4", "Whether the value matches the key: 1 or 0", "each byte to each");
        for (int a = 0; a < 256; a++) {
            for (int b = 0; b < 256; b++) {
                GlobDesk desk = new GlobDesk();
                desk.put(0, a, 1);
                desk.put(1, b, 1);
                int bytes = a == b ? 1 : 0;
                int letters = a == b || areLetters(a, b) ? 1 : 0;
                boolean wild = b == '*' || b == '?';
                String call = "byte " + a + " and " + b;
                due.same(call, desk.match(0, 0), letters);
                due.same(call, desk.match(0, 1), bytes);
                due.same(call, desk.match(1, 0), letters);
                due.same(call, desk.match(1, 1), bytes);
                due.same(call, desk.match(2, 0), wild ? 1 : letters);
                due.same(call, desk.match(2, 1), wild ? 1 : bytes);
            }
        }
    }

    private static void wrongMatch() {
        due.sentence("Promise 4", "-1, refused, for a match not 0 .. 2");
        GlobDesk desk = due.desk("hello", "h*o");
        GlobDesk empty = new GlobDesk();
        for (int bad : Due.outside(0, 2)) {
            for (int comparator = 0; comparator < 3; comparator++) {
                String call = "match(" + bad + ", " + comparator + ")";
                due.same(call, desk.match(bad, comparator), -1);
                due.same("new, " + call, empty.match(bad, comparator), -1);
            }
        }
    }

    private static void wrongComparator() {
        due.sentence("Promise 4", "or a comparator not 0 .. 2");
        GlobDesk desk = due.desk("hello", "h*o");
        GlobDesk empty = new GlobDesk();
        for (int bad : Due.outside(0, 2)) {
            for (int match = 0; match < 3; match++) {
                String call = "match(" + match + ", " + bad + ")";
                due.same(call, desk.match(match, bad), -1);
                due.same("new, " + call, empty.match(match, bad), -1);
            }
            due.same("match(" + bad + ", " + bad + ")", desk.match(bad, bad), -1);
        }
    }

    private static void refused() {
        due.sentence("Promise 4", "-1, refused");
        GlobDesk desk = due.desk("hello", "h*o");
        due.same("match(2, 0)", desk.match(2, 0), 1);
        String before = Due.state(desk);
        desk.match(3, 0);
        desk.match(-1, 1);
        desk.match(0, 3);
        desk.match(1, -1);
        desk.match(2, 3);
        due.same("after refusals", Due.state(desk), before);
    }
}
