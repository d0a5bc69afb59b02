/** Promise 5: spans. */
public final class Promise05SpansTest {
    private static final Due due = new Due();

    private static void check(String value, String key, int match, int comparator, int want) {
        GlobDesk desk = due.desk(value, key);
        desk.match(match, comparator);
        due.same("spans of '" + value + "' " + match + " '" + key + "'", desk.spans(), want);
    }

    public static void main(String[] args) {
        ofTheLastMatch();
        notRefused();
        ifItWasOne();
        isHasNone();
        containsHasOne();
        likeHasItsStars();
        otherwiseNone();
        rowsOfThen();
        otherCalls();
        due.end();
    }

    private static void ofTheLastMatch() {
        due.sentence("Promise 5", "Of the last match");
        GlobDesk desk = due.desk("hello", "*l*");
        due.same("no match yet", desk.spans(), 0);
        desk.match(2, 0);
        due.same("like", desk.spans(), 2);
        due.same("asked again", desk.spans(), 2);
        desk.match(0, 2);
        due.same("is that is 1", desk.spans(), 0);
        desk.match(2, 1);
        due.same("like again", desk.spans(), 2);
        due.refill(desk, 1, "ell");
        desk.match(1, 1);
        due.spans("contains after like", desk, 1, 3);
        due.refill(desk, 1, "*".repeat(100));
        desk.match(2, 1);
        due.same("a hundred stars", desk.spans(), 100);
        due.refill(desk, 1, "*");
        desk.match(2, 1);
        due.spans("one star after a hundred", desk, 0, 5);
    }

    private static void notRefused() {
        due.sentence("Promise 5", "(that was not refused)");
        GlobDesk desk = due.desk("hello", "*l*");
        desk.match(2, 0);
        for (int bad : Due.outside(0, 2)) {
            desk.match(bad, 0);
            due.spans("after match(" + bad + ", 0)", desk, 0, 2, 3, 2);
            desk.match(0, bad);
            due.spans("after match(0, " + bad + ")", desk, 0, 2, 3, 2);
        }
        desk.match(1, 0);
        desk.match(-1, 0);
        due.same("a refused one brings nothing back", desk.spans(), 0);
    }

    private static void ifItWasOne() {
        due.sentence("Promise 5", "if it was 1: how many spans it has");
        GlobDesk desk = due.desk("hello", "*l*");
        for (int match = 0; match < 3; match++) {
            for (int comparator = 0; comparator < 3; comparator++) {
                desk.match(2, 0);
                due.same("like", desk.spans(), 2);
                int answer = desk.match(match, comparator);
                int want = answer == 1 && match == 2 ? 2 : 0;
                due.same("match(" + match + ", " + comparator + ")", desk.spans(), want);
            }
        }
    }

    private static void isHasNone() {
        due.sentence("Promise 5", "(is: 0");
        check("", "", 0, 0, 0);
        check("abc", "abc", 0, 0, 0);
        check("7", "07", 0, 2, 0);
        check("*", "*", 0, 1, 0);
        check("*".repeat(100), "*".repeat(100), 0, 1, 0);
    }

    private static void containsHasOne() {
        due.sentence("Promise 5", "contains: 1)");
        check("abc", "b", 1, 1, 1);
        check("abc", "B", 1, 0, 1);
        check("bbb", "b", 1, 1, 1);
        check("abc", "", 1, 1, 1);
        check("", "", 1, 1, 1);
        check("a**", "**", 1, 1, 1);
        check("*".repeat(100), "*".repeat(100), 1, 1, 1);
    }

    private static void likeHasItsStars() {
        due.sentence("Promise 5", "how many spans it has");
        check("abc", "abc", 2, 1, 0);
        check("abc", "???", 2, 1, 0);
        check("", "", 2, 1, 0);
        check("abc", "*", 2, 1, 1);
        check("abc", "a**c*", 2, 1, 3);
        check("a*c", "a\\*c", 2, 1, 0);
        check("a*c", "*\\**", 2, 1, 2);
        check("x", "*".repeat(100), 2, 1, 100);
        check("", "*".repeat(100), 2, 1, 100);
        check("\\", "*\\", 2, 1, 1);
    }

    /** Also where the first stars had found their bytes before the pattern failed. */
    private static void otherwiseNone() {
        due.sentence("Promise 5", "otherwise 0");
        check("abc", "abd", 0, 1, 0);
        check("abc", "x", 1, 1, 0);
        check("abc", "b", 1, 2, 0);
        check("abc", "*", 2, 2, 0);
        check("ab", "*a*x", 2, 1, 0);
        check("ab", "*a*b*c", 2, 1, 0);
        check("a".repeat(100), "*a".repeat(49) + "*b", 2, 1, 0);
    }

    private static void rowsOfThen() {
        due.sentence("Promise 5", "The rows as they were then count.");
        GlobDesk desk = due.desk("hello", "*l*");
        desk.match(2, 0);
        desk.clear(1);
        due.spans("key cleared", desk, 0, 2, 3, 2);
        due.fill(desk, 1, "nothing");
        due.fill(desk, 0, " and more");
        due.spans("rows put to", desk, 0, 2, 3, 2);
        desk.clear(0);
        due.spans("value cleared", desk, 0, 2, 3, 2);
        due.fill(desk, 0, "z".repeat(100));
        due.refill(desk, 1, "*".repeat(100));
        due.spans("rows full", desk, 0, 2, 3, 2);
        GlobDesk none = due.desk("hello", "x");
        none.match(2, 0);
        due.refill(none, 1, "*");
        due.spans("a match that was 0", none);
    }

    private static void otherCalls() {
        due.sentence("Promise 5", "Of the last match", "the other calls are none");
        GlobDesk desk = due.desk("hello", "*l*");
        desk.match(2, 1);
        for (int comparator = -1; comparator < 4; comparator++) {
            desk.order(comparator);
        }
        desk.counts(3, 0);
        desk.counts(-1, 9);
        desk.byteAt(0, 0);
        desk.byteAt(0, 100);
        desk.size(0);
        desk.size(2);
        desk.span(5, 5);
        due.spans("after the other calls", desk, 0, 2, 3, 2);
    }
}
