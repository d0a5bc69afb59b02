/** Promise 8: counts. */
public final class Promise08CountsTest {
    private static final Due due = new Due();
    // The answers for relations 0 .. 5.
    private static final String MORE = "110001";
    private static final String LIKE = "010110";
    private static final String FEWER = "001101";
    private static final String NEVER = "000000";

    private static void check(int many, String key, String want) {
        GlobDesk desk = Due.desk("5", key);
        for (int relation = 0; relation < 6; relation++) {
            String call = "counts(" + many + ", " + relation + ") to '" + key + "'";
            due.same(call, desk.counts(many, relation) ? 1 : 0, want.charAt(relation) - '0');
        }
        int[] wrong = {-1, 6, 7, Integer.MIN_VALUE, Integer.MAX_VALUE};
        for (int bad : wrong) {
            due.no("counts(" + many + ", " + bad + ") to '" + key + "'", desk.counts(many, bad));
        }
        due.row("after counts", desk, 0, "5");
        due.row("after counts", desk, 1, key);
    }

    public static void main(String[] args) {
        check(7, "7x", LIKE);
        check(8, "7", MORE);
        check(6, "7", FEWER);
        check(7, "007", LIKE);
        check(0, "0", LIKE);
        check(0, "000", LIKE);
        check(0, "1", FEWER);
        check(1, "0", MORE);
        check(10, "9", MORE);
        check(9, "10", FEWER);
        check(12, "12.9", LIKE);
        withoutDigits();
        greatNumbers();
        manyBelowZero();
        matchIsKept();
        due.end();
    }

    private static void withoutDigits() {
        check(0, "", FEWER);
        check(99, "", FEWER);
        check(Integer.MAX_VALUE, "", FEWER);
        check(Integer.MAX_VALUE, "x9", FEWER);
        check(3, "-1", FEWER);
        check(3, " 1", FEWER);
        check(3, ":1", FEWER);
        check(3, "/1", FEWER);
    }

    private static void greatNumbers() {
        check(Integer.MAX_VALUE, "2147483647", LIKE);
        check(Integer.MAX_VALUE, "2147483646", MORE);
        check(Integer.MAX_VALUE, "2147483648", FEWER);
        check(0, "4294967296", FEWER);
        check(1, "4294967297", FEWER);
        check(Integer.MAX_VALUE, "10000000000", FEWER);
        check(0, "18446744073709551616", FEWER);
        check(7, "18446744073709551623", FEWER);
        check(Integer.MAX_VALUE, "9".repeat(100), FEWER);
        check(5, "1" + "0".repeat(99), FEWER);
        check(5, "0".repeat(99) + "5", LIKE);
        check(0, "0".repeat(100), LIKE);
    }

    private static void manyBelowZero() {
        check(-1, "7", NEVER);
        check(-1, "", NEVER);
        check(-1, "0", NEVER);
        check(Integer.MIN_VALUE, "2147483648", NEVER);
    }

    private static void matchIsKept() {
        GlobDesk desk = Due.desk("hello", "h*o");
        desk.match(2, 1);
        desk.counts(1, 0);
        desk.counts(-1, 9);
        due.spans("after counts", desk, 1, 3);
    }
}
