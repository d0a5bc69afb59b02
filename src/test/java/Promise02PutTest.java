/** Promise 2: put. */
public final class Promise02PutTest {
    private static final Due due = new Due();

    public static void main(String[] args) {
        lowestBytes();
        highestFirst();
        comeBehind();
        noSuchWhich();
        wrongMany();
        moreThan100();
        exactly100();
        roomAgain();
        matchIsKept();
        due.end();
    }

    /** With every n from 1 to 8: the bytes of v above them are not looked at, nor is its sign. */
    private static void lowestBytes() {
        due.sentence("Promise 2", "The lowest n bytes of v");
        long v = 0xFF80017F00FEC3A5L;
        String all = "\u00ff\u0080\u0001\u007f\u0000\u00fe\u00c3\u00a5";
        for (int n = 1; n <= 8; n++) {
            GlobDesk desk = new GlobDesk();
            due.yes("put n " + n, desk.put(0, v, n));
            due.yes("put n " + n, desk.put(1, ~v, n));
            due.row("n " + n, desk, 0, all.substring(8 - n));
            due.same("n " + n + ": byteAt(1, 0)", desk.byteAt(1, 0), 255 - all.charAt(8 - n));
            due.same("n " + n + ": size(1)", desk.size(1), n);
        }
        GlobDesk desk = new GlobDesk();
        due.yes("put -1", desk.put(0, -1L, 1));
        due.yes("put least", desk.put(0, Long.MIN_VALUE, 8));
        due.yes("put greatest", desk.put(0, Long.MAX_VALUE, 8));
        due.yes("put least, its lowest byte", desk.put(0, Long.MIN_VALUE, 1));
        due.row("signs", desk, 0, "\u00ff\u0080\0\0\0\0\0\0\0\u007f" + "\u00ff".repeat(7) + "\0");
    }

    private static void highestFirst() {
        due.sentence("Promise 2", "the highest of them first");
        GlobDesk desk = new GlobDesk();
        due.yes("put abc", desk.put(0, 0x616263L, 3));
        due.row("value", desk, 0, "abc");
        due.yes("put 12345678", desk.put(1, 0x3132333435363738L, 8));
        due.row("key", desk, 1, "12345678");
    }

    private static void comeBehind() {
        due.sentence("Promise 2", "come behind the value (which 0) or the key (1): true");
        GlobDesk desk = new GlobDesk();
        due.yes("put abc", desk.put(0, 0x616263L, 3));
        due.row("key", desk, 1, "");
        due.yes("put xy", desk.put(1, 0x7879L, 2));
        due.yes("put de", desk.put(0, 0x6465L, 2));
        due.row("value", desk, 0, "abcde");
        due.row("key", desk, 1, "xy");
        due.same("the value stands ahead", desk.order(1), -1);
    }

    private static void noSuchWhich() {
        due.sentence("Promise 2", "false if there is no such which");
        GlobDesk desk = due.desk("ab", "c");
        for (int which : Due.outside(0, 1)) {
            for (int n = 1; n <= 8; n++) {
                due.no("put(" + which + ", 1, " + n + ")", desk.put(which, 1, n));
            }
        }
        due.row("after refusals", desk, 0, "ab");
        due.row("after refusals", desk, 1, "c");
    }

    private static void wrongMany() {
        due.sentence("Promise 2", "n is not 1 .. 8");
        GlobDesk desk = due.desk("ab", "c");
        for (int n : Due.outside(1, 8)) {
            due.no("put(0, 1, " + n + ")", desk.put(0, 1, n));
            due.no("put(1, 1, " + n + ")", desk.put(1, 1, n));
        }
        due.row("after refusals", desk, 0, "ab");
        due.row("after refusals", desk, 1, "c");
        due.yes("put(0, .., 1)", desk.put(0, 'd', 1));
        due.yes("put(1, .., 8)", desk.put(1, 0, 8));
        due.same("size(0)", desk.size(0), 3);
        due.same("size(1)", desk.size(1), 9);
    }

    /** For every row that n bytes would bring to 101 .. 107. */
    private static void moreThan100() {
        due.sentence("Promise 2", "or there would be more than 100");
        for (int which = 0; which < 2; which++) {
            for (int size = 93; size <= 100; size++) {
                GlobDesk desk = new GlobDesk();
                String text = "x".repeat(size);
                due.fill(desk, which, text);
                for (int n = 101 - size; n <= 8; n++) {
                    due.no("put(" + which + ", 0, " + n + ") to " + size, desk.put(which, 0, n));
                }
                due.row("not in part", desk, which, text);
                due.yes("the other one", desk.put(1 - which, 'z', 1));
            }
        }
    }

    private static void exactly100() {
        due.sentence("Promise 2", "or there would be more than 100", "100 themselves are taken");
        for (int which = 0; which < 2; which++) {
            for (int n = 1; n <= 8; n++) {
                GlobDesk desk = new GlobDesk();
                String text = "x".repeat(100 - n);
                due.fill(desk, which, text);
                due.yes("put(" + which + ", .., " + n + ")", desk.put(which, 0x6162636465666768L, n));
                due.row("full", desk, which, text + "abcdefgh".substring(8 - n));
                due.no("a byte more", desk.put(which, 0, 1));
            }
        }
    }

    private static void roomAgain() {
        due.sentence("Promise 2", "come behind the value (which 0) or the key (1)", "after a clear");
        for (int which = 0; which < 2; which++) {
            GlobDesk desk = new GlobDesk();
            due.fill(desk, which, "x".repeat(100));
            due.same("clear", desk.clear(which), 100);
            due.yes("room again", desk.put(which, 0x71L, 1));
            due.row("room again", desk, which, "q");
            due.fill(desk, which, "y".repeat(99));
            due.row("full again", desk, which, "q" + "y".repeat(99));
        }
    }

    private static void matchIsKept() {
        due.sentence("Promise 5", "The rows as they were then count.", "put");
        GlobDesk desk = due.desk("hello", "h*o");
        desk.match(2, 1);
        desk.put(0, 0x21L, 1);
        desk.put(1, 0x2AL, 1);
        due.spans("after put", desk, 1, 3);
    }
}
