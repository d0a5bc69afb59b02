/** Promise 7: order. */
public final class Promise07OrderTest {
    private static final Due due = new Due();

    /** The answers by comparators 0, 1 and 2, and the other way round. */
    private static void check(String value, String key, int... want) {
        GlobDesk desk = Due.desk(value, key);
        GlobDesk turned = Due.desk(key, value);
        for (int comparator = 0; comparator < 3; comparator++) {
            String call = "order(" + comparator + ") of '" + value + "' and '" + key + "'";
            due.same(call, desk.order(comparator), want[comparator]);
            due.same(call + " turned", turned.order(comparator), -want[comparator]);
        }
        due.row("after order", desk, 0, value);
        due.row("after order", desk, 1, key);
    }

    public static void main(String[] args) {
        check("", "", 0, 0, 0);
        check("abc", "abc", 0, 0, 0);
        check("abc", "abd", -1, -1, 0);
        check("ab", "abc", -1, -1, 0);
        check("", "a", -1, -1, 0);
        check("b", "abc", 1, 1, 0);
        check("hello", "LL", -1, 1, 0);
        check("ABC", "abc", 0, -1, 0);
        check("AB", "abc", -1, -1, 0);
        check("a", "_", -1, 1, 0);
        check("A", "_", -1, -1, 0);
        check("z", "[", -1, 1, 0);
        check("a", "@", 1, 1, 0);
        check("z", "`", -1, 1, 0);
        check("Z", "{", -1, -1, 0);
        check("\u0080", "\u007f", 1, 1, 0);
        check("\u00ff", "\0", 1, 1, 0);
        check("\u00e0", "\u00c0", 1, 1, 0);
        check("*", "?", -1, -1, 0);
        numbers();
        wrongInputs();
        matchIsKept();
        due.end();
    }

    private static void numbers() {
        check("9", "10", 1, 1, -1);
        check("007", "7x", -1, -1, 0);
        check("7", "7.5", -1, -1, 0);
        check("0", "", 1, 1, -1);
        check("9999", "x", -1, -1, -1);
        check("-5", "3", -1, -1, 1);
        check(" 5", "9", -1, -1, 1);
        check("0", "00", -1, -1, 0);
        check("0x", "1", -1, -1, -1);
        check("100", "99", -1, -1, 1);
        check("0100", "99", -1, -1, 1);
        check("129", "130", -1, -1, -1);
        check("4294967296", "1", 1, 1, 1);
        check("9223372036854775808", "9223372036854775807", 1, 1, 1);
        check("18446744073709551617", "2", -1, -1, 1);
        check("9".repeat(100), "9".repeat(99) + "8", 1, 1, 1);
        check("1" + "0".repeat(99), "9".repeat(99), -1, -1, 1);
        check("0".repeat(100), "0", 1, 1, 0);
        check("0".repeat(99) + "1", "0", 1, 1, 1);
        check("9".repeat(100), "", 1, 1, -1);
    }

    private static void wrongInputs() {
        GlobDesk desk = Due.desk("a", "b");
        int[] wrong = {-1, 3, -2, Integer.MIN_VALUE, Integer.MAX_VALUE};
        for (int bad : wrong) {
            due.same("order(" + bad + ")", desk.order(bad), -2);
        }
        due.row("after wrong inputs", desk, 0, "a");
        due.row("after wrong inputs", desk, 1, "b");
    }

    private static void matchIsKept() {
        GlobDesk desk = Due.desk("hello", "h*o");
        desk.match(2, 1);
        for (int comparator = -1; comparator < 4; comparator++) {
            desk.order(comparator);
        }
        due.spans("after order", desk, 1, 3);
    }
}
