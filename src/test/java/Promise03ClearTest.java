/** Promise 3: clear. */
public final class Promise03ClearTest {
    private static final Due due = new Due();

    public static void main(String[] args) {
        isEmpty();
        howMany();
        noSuchWhich();
        matchIsKept();
        due.end();
    }

    private static void isEmpty() {
        due.sentence("Promise 3", "The value or key is empty");
        GlobDesk desk = due.desk("hello", "l*");
        desk.clear(0);
        due.row("cleared", desk, 0, "");
        due.row("not cleared", desk, 1, "l*");
        desk.clear(1);
        due.row("cleared", desk, 1, "");
        due.fill(desk, 0, "new");
        due.row("filled again", desk, 0, "new");
        due.same("no old bytes", desk.match(0, 1), 0);
        due.same("order to an empty key", desk.order(1), 1);
        desk.clear(1);
        due.row("not cleared", desk, 0, "new");
        GlobDesk full = due.desk("7".repeat(100), "8".repeat(100));
        full.clear(0);
        full.clear(1);
        due.row("a full value", full, 0, "");
        due.row("a full key", full, 1, "");
        due.yes("no old digits", full.counts(Integer.MAX_VALUE, 2));
        due.same("no old bytes", full.match(0, 1), 1);
    }

    private static void howMany() {
        due.sentence("Promise 3", "how many bytes it had");
        for (int many = 0; many <= 100; many++) {
            GlobDesk desk = due.desk("v".repeat(many), "k".repeat(100 - many));
            due.same("clear(0)", desk.clear(0), many);
            due.same("clear(0) again", desk.clear(0), 0);
            due.same("clear(1)", desk.clear(1), 100 - many);
            due.same("clear(1) again", desk.clear(1), 0);
        }
    }

    private static void noSuchWhich() {
        due.sentence("Promise 3", "-1 if there is no such which");
        GlobDesk desk = due.desk("hello", "l*");
        for (int which : Due.outside(0, 1)) {
            due.same("clear(" + which + ")", desk.clear(which), -1);
        }
        due.row("after refusals", desk, 0, "hello");
        due.row("after refusals", desk, 1, "l*");
        GlobDesk empty = new GlobDesk();
        for (int which : Due.outside(0, 1)) {
            due.same("new, clear(" + which + ")", empty.clear(which), -1);
        }
    }

    private static void matchIsKept() {
        due.sentence("Promise 5", "The rows as they were then count.", "clear");
        GlobDesk matched = due.desk("hello", "h*o");
        matched.match(2, 0);
        matched.clear(0);
        matched.clear(1);
        matched.clear(2);
        due.spans("spans outlive clear", matched, 1, 3);
    }
}
