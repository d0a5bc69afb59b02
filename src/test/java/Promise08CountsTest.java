/** Promise 8: counts. */
public final class Promise08CountsTest {
    private static final Due due = new Due();
    // The answers for relations 0 .. 5.
    private static final String MORE = "110001";
    private static final String SAME = "010110";
    private static final String FEWER = "001101";

    private static void check(int many, String key, String want) {
        GlobDesk desk = due.desk("5", key);
        for (int relation = 0; relation < 6; relation++) {
            String call = "counts(" + many + ", " + relation + ") to '" + key + "'";
            due.same(call, desk.counts(many, relation) ? 1 : 0, want.charAt(relation) - '0');
        }
        due.row("after counts", desk, 0, "5");
        due.row("after counts", desk, 1, key);
    }

    public static void main(String[] args) {
        relation("0 greater", 0, false, false, true);
        relation("1 greater or like", 1, false, true, true);
        relation("2 less", 2, true, false, false);
        relation("3 less or like", 3, true, true, false);
        relation("4 like", 4, false, true, false);
        relation("5 not", 5, true, false, true);
        keysNumber();
        leastAndMost();
        beyondInt();
        withoutDigits();
        anotherRelation();
        manyBelowZero();
        due.end();
    }

    /** One below the key's number, the number itself, and one above it. */
    private static void relation(String words, int relation, boolean below, boolean same, boolean above) {
        due.sentence("Promise 8", words);
        String[] keys = {"1", "7", "10", "007x", "100", "2147483646"};
        for (String key : keys) {
            int number = Integer.parseInt(key.replace("x", ""));
            GlobDesk desk = due.desk("5", key);
            due.same("one below " + key, desk.counts(number - 1, relation) ? 1 : 0, below ? 1 : 0);
            due.same("itself " + key, desk.counts(number, relation) ? 1 : 0, same ? 1 : 0);
            due.same("one above " + key, desk.counts(number + 1, relation) ? 1 : 0, above ? 1 : 0);
        }
    }

    private static void keysNumber() {
        due.sentence("Promise 8", "Whether so many stand to the key's number as a relation says");
        check(7, "7x", SAME);
        check(7, "007", SAME);
        check(10, "9", MORE);
        check(9, "10", FEWER);
        check(12, "12.9", SAME);
        check(5, "6", FEWER);
        check(6, "5", MORE);
        check(1, "1/2", SAME);
        check(1, "1:2", SAME);
    }

    private static void leastAndMost() {
        due.sentence("Promise 8", "so many stand to the key's number", "the least and the greatest int");
        check(0, "0", SAME);
        check(0, "000", SAME);
        check(0, "1", FEWER);
        check(1, "0", MORE);
        check(0, "0".repeat(100), SAME);
        check(5, "0".repeat(99) + "5", SAME);
        check(Integer.MAX_VALUE, "2147483647", SAME);
        check(Integer.MAX_VALUE, "2147483646", MORE);
        check(Integer.MAX_VALUE, "2147483648", FEWER);
        check(Integer.MAX_VALUE, "0", MORE);
    }

    /** Digits that an int or a long would wrap around to a small number. */
    private static void beyondInt() {
        due.sentence("Promise 8", "the key's number", "as many digits as there are");
        check(0, "4294967296", FEWER);
        check(1, "4294967297", FEWER);
        check(Integer.MAX_VALUE, "4294967295", FEWER);
        check(Integer.MAX_VALUE, "9999999999", FEWER);
        check(Integer.MAX_VALUE, "10000000000", FEWER);
        check(Integer.MAX_VALUE, "9223372036854775808", FEWER);
        check(0, "18446744073709551616", FEWER);
        check(7, "18446744073709551623", FEWER);
        check(Integer.MAX_VALUE, "9".repeat(100), FEWER);
        check(5, "1" + "0".repeat(99), FEWER);
    }

    private static void withoutDigits() {
        due.sentence("Promise 8", "the key's number", "Terms: without any greater than all numbers");
        check(0, "", FEWER);
        check(99, "", FEWER);
        check(Integer.MAX_VALUE, "", FEWER);
        check(Integer.MAX_VALUE, "x9", FEWER);
        check(3, "-1", FEWER);
        check(3, " 1", FEWER);
        check(3, ":1", FEWER);
        check(3, "/1", FEWER);
        check(3, "\u00ff".repeat(100), FEWER);
    }

    private static void anotherRelation() {
        due.sentence("Promise 8", "false for another relation");
        int[] many = {0, 6, 7, 8, Integer.MAX_VALUE, -1};
        for (String key : new String[] {"7", "", "0", "9".repeat(100)}) {
            GlobDesk desk = due.desk("5", key);
            for (int one : many) {
                for (int bad : Due.outside(0, 5)) {
                    due.no("counts(" + one + ", " + bad + ") to '" + key + "'", desk.counts(one, bad));
                }
            }
        }
    }

    private static void manyBelowZero() {
        due.sentence("Promise 8", "or many below 0");
        int[] many = {-1, -2, -7, -100, Integer.MIN_VALUE, Integer.MIN_VALUE + 1};
        for (String key : new String[] {"7", "", "0", "x", "2147483648", "4294967295", "9".repeat(100)}) {
            GlobDesk desk = due.desk("5", key);
            for (int below : many) {
                for (int relation = -1; relation < 7; relation++) {
                    due.no("counts(" + below + ", " + relation + ") to '" + key + "'", desk.counts(below, relation));
                }
            }
        }
    }
}
