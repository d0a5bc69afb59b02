/** Promise 2: put. */
public final class Promise02PutTest {
    private static final Due due = new Due();

    public static void main(String[] args) {
        order();
        eachLength();
        refusals();
        fullRow(0);
        fullRow(1);
        matchIsKept();
        due.end();
    }

    private static void order() {
        GlobDesk desk = new GlobDesk();
        due.yes("put abc", desk.put(0, 0x616263L, 3));
        due.row("value", desk, 0, "abc");
        due.row("key", desk, 1, "");
        due.yes("put xy", desk.put(1, 0x7879L, 2));
        due.yes("put de", desk.put(0, 0x6465L, 2));
        due.row("value", desk, 0, "abcde");
        due.row("key", desk, 1, "xy");
    }

    private static void eachLength() {
        long v = 0xFF80017F00FEC3A5L;
        String all = "\u00ff\u0080\u0001\u007f\u0000\u00fe\u00c3\u00a5";
        for (int n = 1; n <= 8; n++) {
            GlobDesk desk = new GlobDesk();
            due.yes("put n " + n, desk.put(1, v, n));
            due.row("n " + n, desk, 1, all.substring(8 - n));
        }
        GlobDesk desk = new GlobDesk();
        due.yes("put -1", desk.put(0, -1L, 1));
        due.yes("put least", desk.put(0, Long.MIN_VALUE, 8));
        due.row("signs", desk, 0, "\u00ff\u0080\0\0\0\0\0\0\0");
    }

    private static void refusals() {
        GlobDesk desk = Due.desk("ab", "c");
        int[] wrongWhich = {-1, 2, 3, Integer.MIN_VALUE, Integer.MAX_VALUE};
        for (int which : wrongWhich) {
            due.no("put which " + which, desk.put(which, 1, 1));
        }
        int[] wrongN = {0, -1, 9, 10, 64, Integer.MIN_VALUE, Integer.MAX_VALUE};
        for (int n : wrongN) {
            due.no("put n " + n, desk.put(0, 1, n));
            due.no("put n " + n, desk.put(1, 1, n));
        }
        due.row("after refusals", desk, 0, "ab");
        due.row("after refusals", desk, 1, "c");
    }

    private static void fullRow(int which) {
        GlobDesk desk = new GlobDesk();
        String text = "x".repeat(96);
        Due.fill(desk, which, text);
        due.no("101 bytes", desk.put(which, 0, 5));
        due.no("104 bytes", desk.put(which, 0, 8));
        due.row("not in part", desk, which, text);
        due.yes("100 bytes", desk.put(which, 0x61626364L, 4));
        due.row("full", desk, which, text + "abcd");
        due.no("a byte more", desk.put(which, 0, 1));
        due.row("still full", desk, which, text + "abcd");
        due.yes("the other one", desk.put(1 - which, 0x7AL, 1));
        due.row("the other one", desk, 1 - which, "z");
        due.same("clear", desk.clear(which), 100);
        due.yes("room again", desk.put(which, 0x71L, 1));
        due.row("room again", desk, which, "q");
    }

    private static void matchIsKept() {
        GlobDesk desk = Due.desk("hello", "h*o");
        desk.match(2, 1);
        desk.put(0, 0x21L, 1);
        desk.put(1, 0x2AL, 1);
        due.spans("after put", desk, 1, 3);
    }
}
