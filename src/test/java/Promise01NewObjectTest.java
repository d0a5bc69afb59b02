/** Promise 1: both rows of a new object are empty, and no match has been made. */
public final class Promise01NewObjectTest {
    public static void main(String[] args) {
        Due due = new Due();
        GlobDesk desk = new GlobDesk();
        due.row("new", desk, 0, "");
        due.row("new", desk, 1, "");
        due.spans("new", desk);
        due.same("order(0)", desk.order(0), 0);
        due.same("order(1)", desk.order(1), 0);
        due.same("order(2)", desk.order(2), 0);
        due.same("clear(0)", desk.clear(0), 0);
        due.same("clear(1)", desk.clear(1), 0);

        GlobDesk other = Due.desk("abc", "*");
        other.match(2, 0);
        due.row("beside another", desk, 0, "");
        due.row("beside another", desk, 1, "");
        due.spans("beside another", desk);
        due.row("new after another", new GlobDesk(), 0, "");
        due.row("new after another", new GlobDesk(), 1, "");
        due.end();
    }
}
