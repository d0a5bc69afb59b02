/** Promise 9: byteAt. */
public final class Promise09ByteAtTest {
    private static final Due due = new Due();

    public static void main(String[] args) {
        byteOf();
        firstAndLastOfFull();
        noSuchByte();
        noneInEmpty();
        noneCleared();
        noSuchWhich();
        due.end();
    }

    private static void byteOf() {
        due.sentence("Promise 9", "Byte i of the value or key");
        GlobDesk desk = due.desk("a\u00ff\0", "*\u0080");
        due.same("byteAt(0, 0)", desk.byteAt(0, 0), 97);
        due.same("byteAt(0, 1)", desk.byteAt(0, 1), 255);
        due.same("byteAt(0, 2)", desk.byteAt(0, 2), 0);
        due.same("byteAt(1, 0)", desk.byteAt(1, 0), 42);
        due.same("byteAt(1, 1)", desk.byteAt(1, 1), 128);
    }

    private static void firstAndLastOfFull() {
        due.sentence("Promise 9", "Byte i of the value or key", "the last of a full row");
        GlobDesk full = due.desk("x".repeat(99) + "y", "y".repeat(99) + "x");
        due.same("first of the value", full.byteAt(0, 0), 'x');
        due.same("first of the key", full.byteAt(1, 0), 'y');
        due.same("last of the value", full.byteAt(0, 99), 'y');
        due.same("last of the key", full.byteAt(1, 99), 'x');
        due.same("behind the value", full.byteAt(0, 100), -1);
        due.same("behind the key", full.byteAt(1, 100), -1);
        for (int bad : Due.outside(0, 99)) {
            due.same("byteAt(0, " + bad + ")", full.byteAt(0, bad), -1);
            due.same("byteAt(1, " + bad + ")", full.byteAt(1, bad), -1);
        }
    }

    private static void noSuchByte() {
        due.sentence("Promise 9", "-1 if there is none");
        GlobDesk desk = due.desk("a\u00ff\0", "*\u0080");
        due.same("byteAt(0, 3)", desk.byteAt(0, 3), -1);
        due.same("byteAt(1, 2)", desk.byteAt(1, 2), -1);
        for (int bad : Due.outside(0, 2)) {
            due.same("byteAt(0, " + bad + ")", desk.byteAt(0, bad), -1);
            due.same("byteAt(1, " + bad + ")", desk.byteAt(1, bad), -1);
        }
    }

    private static void noneInEmpty() {
        due.sentence("Promise 9", "-1 if there is none", "an empty row");
        GlobDesk desk = new GlobDesk();
        for (int i = -1; i <= 101; i++) {
            due.same("byteAt(0, " + i + ")", desk.byteAt(0, i), -1);
            due.same("byteAt(1, " + i + ")", desk.byteAt(1, i), -1);
        }
    }

    private static void noneCleared() {
        due.sentence("Promise 9", "-1 if there is none", "bytes from before a clear");
        GlobDesk desk = due.desk("abc", "*");
        desk.clear(0);
        due.same("cleared", desk.byteAt(0, 0), -1);
        due.same("the other is kept", desk.byteAt(1, 0), 42);
        desk.put(0, 0x7A, 1);
        due.same("put again", desk.byteAt(0, 0), 122);
        due.same("no old byte", desk.byteAt(0, 1), -1);
        desk.put(0, 0, 9);
        due.same("no byte of a refused put", desk.byteAt(0, 1), -1);
    }

    private static void noSuchWhich() {
        due.sentence("Promise 9", "of the value or key; -1 if there is none", "no such row");
        GlobDesk desk = due.desk("abc", "def");
        for (int bad : Due.outside(0, 1)) {
            for (int i = -1; i < 4; i++) {
                due.same("byteAt(" + bad + ", " + i + ")", desk.byteAt(bad, i), -1);
            }
            due.same("byteAt(" + bad + ", " + bad + ")", desk.byteAt(bad, bad), -1);
        }
    }
}
