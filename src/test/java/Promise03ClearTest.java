/** Promise 3: clear. */
public final class Promise03ClearTest {
    public static void main(String[] args) {
        Due due = new Due();
        GlobDesk desk = Due.desk("hello", "l*");
        int[] wrongWhich = {-1, 2, Integer.MIN_VALUE, Integer.MAX_VALUE};
        for (int which : wrongWhich) {
            due.same("clear(" + which + ")", desk.clear(which), -1);
        }
        due.row("after refusals", desk, 0, "hello");
        due.row("after refusals", desk, 1, "l*");

        due.same("clear(0)", desk.clear(0), 5);
        due.row("cleared", desk, 0, "");
        due.row("not cleared", desk, 1, "l*");
        due.same("clear(0) again", desk.clear(0), 0);
        due.same("clear(1)", desk.clear(1), 2);
        due.row("cleared", desk, 1, "");

        Due.fill(desk, 0, "new");
        due.row("filled again", desk, 0, "new");
        due.same("no old bytes", desk.match(0, 1), 0);
        due.same("order to an empty key", desk.order(1), 1);

        GlobDesk matched = Due.desk("hello", "h*o");
        matched.match(2, 0);
        matched.clear(0);
        matched.clear(1);
        matched.clear(2);
        due.spans("spans outlive clear", matched, 1, 3);
        due.end();
    }
}
