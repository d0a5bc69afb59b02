/** Promise 5: spans. */
public final class Promise05SpansTest {
    private static final Due due = new Due();

    private static void check(String value, String key, int match, int comparator, int want) {
        GlobDesk desk = Due.desk(value, key);
        desk.match(match, comparator);
        due.same("spans of '" + value + "' " + match + " '" + key + "'", desk.spans(), want);
    }

    public static void main(String[] args) {
        check("abc", "abc", 0, 0, 0);
        check("7", "07", 0, 2, 0);
        check("*", "*", 0, 1, 0);
        check("abc", "b", 1, 1, 1);
        check("abc", "", 1, 1, 1);
        check("a**", "**", 1, 1, 1);
        check("abc", "x", 1, 1, 0);
        check("abc", "b", 1, 2, 0);
        check("abc", "abc", 2, 1, 0);
        check("abc", "???", 2, 1, 0);
        check("abc", "*", 2, 1, 1);
        check("abc", "*", 2, 2, 0);
        check("abc", "a**c*", 2, 1, 3);
        check("a*c", "a\\*c", 2, 1, 0);
        check("a*c", "*\\**", 2, 1, 2);
        check("x", "*".repeat(100), 2, 1, 100);
        check("", "*".repeat(100), 2, 1, 100);
        check("ab", "*a*x", 2, 1, 0);
        check("ab", "*a*b*c", 2, 1, 0);
        lastMatchCounts();
        rowsOfThen();
        due.end();
    }

    private static void lastMatchCounts() {
        GlobDesk desk = Due.desk("hello", "*l*");
        due.same("no match yet", desk.spans(), 0);
        desk.match(2, 0);
        due.same("like", desk.spans(), 2);
        due.same("asked again", desk.spans(), 2);
        desk.match(0, 0);
        due.same("a match that is 0", desk.spans(), 0);
        desk.match(2, 0);
        desk.match(3, 0);
        desk.match(2, 3);
        due.same("refused ones do not count", desk.spans(), 2);
        desk.match(1, 0);
        due.same("contains that is 0", desk.spans(), 0);
        desk.match(-1, 0);
        due.same("a refused one brings nothing back", desk.spans(), 0);
        desk.match(2, 1);
        desk.match(0, 2);
        due.same("is that is 1", desk.spans(), 0);
        desk.match(2, 1);
        desk.match(2, 2);
        due.same("like as numbers", desk.spans(), 0);
        desk.match(2, 1);
        desk.order(0);
        desk.order(3);
        desk.counts(3, 0);
        desk.byteAt(0, 0);
        desk.size(0);
        due.same("other calls change nothing", desk.spans(), 2);
    }

    private static void rowsOfThen() {
        GlobDesk desk = Due.desk("hello", "*l*");
        desk.match(2, 0);
        desk.clear(1);
        Due.fill(desk, 1, "nothing");
        Due.fill(desk, 0, " and more");
        due.spans("the rows as they were", desk, 0, 2, 3, 2);
        desk.clear(0);
        due.spans("the rows as they were", desk, 0, 2, 3, 2);
    }
}
