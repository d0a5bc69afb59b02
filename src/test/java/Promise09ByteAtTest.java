/** Promise 9: byteAt. */
public final class Promise09ByteAtTest {
    public static void main(String[] args) {
        Due due = new Due();
        GlobDesk desk = Due.desk("a\u00ff\0", "*\u0080");
        due.same("byteAt(0, 0)", desk.byteAt(0, 0), 97);
        due.same("byteAt(0, 1)", desk.byteAt(0, 1), 255);
        due.same("byteAt(0, 2)", desk.byteAt(0, 2), 0);
        due.same("byteAt(0, 3)", desk.byteAt(0, 3), -1);
        due.same("byteAt(1, 0)", desk.byteAt(1, 0), 42);
        due.same("byteAt(1, 1)", desk.byteAt(1, 1), 128);
        due.same("byteAt(1, 2)", desk.byteAt(1, 2), -1);
        int[] wrong = {-1, 99, 100, 101, Integer.MIN_VALUE, Integer.MAX_VALUE};
        for (int bad : wrong) {
            due.same("byteAt(0, " + bad + ")", desk.byteAt(0, bad), -1);
            due.same("byteAt(1, " + bad + ")", desk.byteAt(1, bad), -1);
            due.same("byteAt(" + bad + ", 0)", desk.byteAt(bad, 0), -1);
        }
        due.same("byteAt(2, 0)", desk.byteAt(2, 0), -1);

        desk.clear(0);
        due.same("cleared", desk.byteAt(0, 0), -1);
        due.same("the other is kept", desk.byteAt(1, 0), 42);
        desk.put(0, 0x7A, 1);
        due.same("put again", desk.byteAt(0, 0), 122);
        due.same("no old byte", desk.byteAt(0, 1), -1);

        GlobDesk full = Due.desk("x".repeat(99) + "y", "y".repeat(99) + "x");
        due.same("last of a full row", full.byteAt(0, 99), 'y');
        due.same("last of a full row", full.byteAt(1, 99), 'x');
        due.same("behind a full row", full.byteAt(0, 100), -1);
        due.same("behind a full row", full.byteAt(1, 100), -1);
        due.end();
    }
}
