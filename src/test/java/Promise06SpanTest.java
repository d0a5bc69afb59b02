/** Promise 6: span; which bytes a span has stands in TermsSpansTest. */
public final class Promise06SpanTest {
    private static final Due due = new Due();

    public static void main(String[] args) {
        whereItBegins();
        howManyBytes();
        noSuchSpan();
        noSuchSpanWithoutMatch();
        noSuchSpanBehindFewer();
        anotherWhat();
        due.end();
    }

    private static void whereItBegins() {
        due.sentence("Promise 6", "where it begins (what 0)");
        GlobDesk desk = due.desk("x".repeat(99) + "y", "*y*");
        due.same("match(2, 1)", desk.match(2, 1), 1);
        due.same("at the value's begin", desk.span(0, 0), 0);
        due.same("behind the value's end", desk.span(1, 0), 100);
        due.refill(desk, 1, "y");
        due.same("match(1, 1)", desk.match(1, 1), 1);
        due.same("the last byte", desk.span(0, 0), 99);
        due.spansOf(2, 1, "", "*", 0, 0);
        due.spansOf(2, 1, "abc", "a*c", 1, 1);
    }

    private static void howManyBytes() {
        due.sentence("Promise 6", "how many bytes (1)");
        GlobDesk desk = due.desk("x".repeat(100), "*");
        due.same("match(2, 1)", desk.match(2, 1), 1);
        due.same("all of them", desk.span(0, 1), 100);
        due.refill(desk, 1, "x*" + "x".repeat(98));
        due.same("match(2, 1)", desk.match(2, 1), 1);
        due.same("one", desk.span(0, 1), 1);
        due.refill(desk, 1, "*".repeat(100));
        due.same("match(2, 1)", desk.match(2, 1), 1);
        due.same("none", desk.span(0, 1), 0);
        due.same("none", desk.span(98, 1), 0);
        due.same("all of them", desk.span(99, 1), 100);
        due.refill(desk, 1, "");
        due.same("match(1, 1)", desk.match(1, 1), 1);
        due.same("an empty key", desk.span(0, 1), 0);
    }

    private static void noSuchSpan() {
        due.sentence("Promise 6", "-1 if there is none");
        GlobDesk desk = due.desk("hello", "*l*");
        desk.match(2, 0);
        for (int bad : Due.outside(0, 1)) {
            due.same("span(" + bad + ", 0)", desk.span(bad, 0), -1);
            due.same("span(" + bad + ", 1)", desk.span(bad, 1), -1);
        }
        due.spans("after wrong inputs", desk, 0, 2, 3, 2);
        GlobDesk most = due.desk("hello", "*".repeat(100));
        most.match(2, 0);
        for (int bad : Due.outside(0, 99)) {
            due.same("of a hundred: span(" + bad + ", 0)", most.span(bad, 0), -1);
            due.same("of a hundred: span(" + bad + ", 1)", most.span(bad, 1), -1);
        }
    }

    private static void none(String when, GlobDesk desk) {
        due.same(when + ": span(0, 0)", desk.span(0, 0), -1);
        due.same(when + ": span(0, 1)", desk.span(0, 1), -1);
    }

    private static void noSuchSpanWithoutMatch() {
        due.sentence("Promise 6", "-1 if there is none", "no match, or one without spans");
        GlobDesk desk = due.desk("hello", "*l*");
        none("before any match", desk);
        desk.match(3, 0);
        none("after a refused match", desk);
        desk.match(2, 0);
        desk.match(0, 1);
        none("after a match that is 0", desk);
        due.refill(desk, 1, "hello");
        desk.match(0, 1);
        none("is", desk);
        desk.match(2, 1);
        none("like without stars", desk);
        due.refill(desk, 1, "h*l*x");
        desk.match(2, 1);
        none("a pattern that fails late", desk);
        due.refill(desk, 1, "*");
        desk.match(2, 2);
        none("like as numbers", desk);
    }

    private static void noSuchSpanBehindFewer() {
        due.sentence("Promise 6", "-1 if there is none", "fewer than the match before had");
        GlobDesk desk = due.desk("hello", "*".repeat(100));
        desk.match(2, 0);
        due.same("of a hundred", desk.span(99, 0), 0);
        due.refill(desk, 1, "h*");
        desk.match(2, 0);
        for (int i = 1; i <= 100; i++) {
            due.same("span(" + i + ", 0)", desk.span(i, 0), -1);
            due.same("span(" + i + ", 1)", desk.span(i, 1), -1);
        }
        due.spans("the one that is there", desk, 1, 4);
    }

    private static void anotherWhat() {
        due.sentence("Promise 6", "or for another what");
        GlobDesk desk = due.desk("hello", "*l*");
        desk.match(2, 0);
        for (int bad : Due.outside(0, 1)) {
            due.same("span(0, " + bad + ")", desk.span(0, bad), -1);
            due.same("span(1, " + bad + ")", desk.span(1, bad), -1);
            due.same("span(2, " + bad + ")", desk.span(2, bad), -1);
            due.same("span(" + bad + ", " + bad + ")", desk.span(bad, bad), -1);
        }
        due.spans("after wrong inputs", desk, 0, 2, 3, 2);
    }
}
