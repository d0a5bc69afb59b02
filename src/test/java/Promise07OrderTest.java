/** Promise 7: order; how each comparator orders stands in TermsComparatorsTest. */
public final class Promise07OrderTest {
    private static final Due due = new Due();

    public static void main(String[] args) {
        aheadLikeBehind();
        wrongComparator();
        rowsAreKept();
        due.end();
    }

    /** Never another number, however far apart the rows stand. */
    private static void aheadLikeBehind() {
        due.sentence("Promise 7", "-1, 0, 1 as the value stands ahead of the key, like it, behind it");
        for (int comparator = 0; comparator < 3; comparator++) {
            due.order(comparator, "", "", 0);
            due.order(comparator, "1", "2", -1);
            due.order(comparator, "2", "1", 1);
            due.order(comparator, "5", "5", 0);
            due.order(comparator, "1", "1".repeat(100), -1);
        }
        due.order(0, "\0", "\u00ff", -1);
        due.order(1, "\0", "\u00ff", -1);
        due.order(0, "", "\u00ff".repeat(100), -1);
        due.order(1, "", "\u00ff".repeat(100), -1);
        due.order(2, "0", "9".repeat(100), -1);
        due.order(2, "9".repeat(100), "", -1);
        due.order(0, "hello", "LL", -1);
        due.order(1, "hello", "LL", 1);
        due.order(2, "hello", "LL", 0);
    }

    private static void wrongComparator() {
        due.sentence("Promise 7", "-2 for a comparator not 0 .. 2");
        GlobDesk desk = due.desk("a", "b");
        GlobDesk empty = new GlobDesk();
        for (int bad : Due.outside(0, 2)) {
            due.same("order(" + bad + ")", desk.order(bad), -2);
            due.same("new, order(" + bad + ")", empty.order(bad), -2);
        }
    }

    private static void rowsAreKept() {
        due.sentence("Promise 7", "as the value stands ahead of the key", "both stay as they are");
        GlobDesk desk = due.desk("aB007", "Ab7");
        for (int comparator = -1; comparator < 4; comparator++) {
            desk.order(comparator);
        }
        due.row("after order", desk, 0, "aB007");
        due.row("after order", desk, 1, "Ab7");
    }
}
