/** Promise 1: a new object. */
public final class Promise01NewObjectTest {
    private static final Due due = new Due();

    public static void main(String[] args) {
        bothAreEmpty();
        bothAreEmptyBesideOthers();
        noMatchYet();
        due.end();
    }

    private static void bothAreEmpty() {
        due.sentence("Promise 1", "Both are empty.");
        GlobDesk desk = new GlobDesk();
        due.row("new", desk, 0, "");
        due.row("new", desk, 1, "");
        due.same("order(0)", desk.order(0), 0);
        due.same("order(1)", desk.order(1), 0);
        due.same("order(2)", desk.order(2), 0);
        due.same("clear(0)", desk.clear(0), 0);
        due.same("clear(1)", desk.clear(1), 0);
    }

    private static void bothAreEmptyBesideOthers() {
        due.sentence("Promise 1", "Both are empty.", "after another object was used");
        GlobDesk desk = new GlobDesk();
        GlobDesk other = due.desk("abc", "*");
        other.match(2, 0);
        due.row("beside another", desk, 0, "");
        due.row("beside another", desk, 1, "");
        due.row("new after another", new GlobDesk(), 0, "");
        due.row("new after another", new GlobDesk(), 1, "");
    }

    private static void noMatchYet() {
        due.sentence("Promise 5", "otherwise 0", "no match yet");
        due.spans("new", new GlobDesk());
    }
}
