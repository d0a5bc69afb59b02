/** What the document says of the whole object and its rows, one method for each sentence. */
public final class TermsRowsTest {
    private static final Due due = new Due();

    public static void main(String[] args) {
        callsAtMost();
        bytesAtMost();
        bytesFromTo();
        ownMemory();
        refusedPut();
        refusedPutToFullRow();
        refusedClear();
        refusedMatch();
        refusedAsking();
        due.end();
    }

    /** Call number 512 is the last that is promised, whichever it is and whatever came before it. */
    private static void callsAtMost() {
        due.sentence("What it is", "An object is used for at most 512 calls after it has been made");
        due.yes("put", used511().put(0, 'x', 1));
        due.same("clear(0)", used511().clear(0), 6);
        due.same("match(2, 0)", used511().match(2, 0), 1);
        due.same("match(1, 0)", used511().match(1, 0), 0);
        due.same("spans()", used511().spans(), 2);
        due.same("span(1, 0)", used511().span(1, 0), 5);
        due.same("order(1)", used511().order(1), 1);
        due.yes("counts(7, 2)", used511().counts(7, 2));
        due.same("byteAt(1, 2)", used511().byteAt(1, 2), 'o');
        due.same("size(1)", used511().size(1), 4);
    }

    /** More puts, matches and refusals than an object has room for, if it kept what they leave. */
    private static GlobDesk used511() {
        GlobDesk desk = new GlobDesk();
        for (int round = 0; round < 101; round++) {
            desk.put(0, Due.packed("12345678"), 8);
            desk.put(1, Due.packed("*3*4*5*"), 7);
            desk.match(2, round % 4);
            desk.clear(0);
            desk.clear(1);
        }
        desk.put(0, Due.packed("hallow"), 6);
        desk.put(1, Due.packed("h*o*"), 4);
        desk.match(2, 1);
        desk.match(3, 0);
        desk.put(0, 0, 9);
        desk.clear(2);
        return desk;
    }

    private static void bytesAtMost() {
        due.sentence("Terms", "rows of up to 100 bytes each");
        String digits = "0123456789".repeat(10);
        String letters = "abcdefghij".repeat(10);
        GlobDesk desk = due.desk(digits, letters);
        due.row("full value", desk, 0, digits);
        due.row("full key", desk, 1, letters);
        due.no("byte 101 of the value", desk.put(0, 'x', 1));
        due.no("byte 101 of the key", desk.put(1, 'x', 1));
        due.row("full key beside a full value", desk, 1, letters);
        due.match(0, letters, letters, 1, 1, 1);
        due.match(1, letters, letters, 1, 1, 0);
        due.match(2, letters, letters, 1, 1, 0);
        due.match(2, letters, "?".repeat(100), 1, 1, 0);
        due.match(2, letters, "*".repeat(100), 1, 1, 0);
    }

    private static void bytesFromTo() {
        due.sentence("Terms", "(0 .. 255)");
        for (int b = 0; b < 256; b++) {
            GlobDesk desk = new GlobDesk();
            due.yes("put " + b, desk.put(0, b, 1));
            due.yes("put " + b, desk.put(1, b, 1));
            due.same("byteAt(0, 0)", desk.byteAt(0, 0), b);
            due.same("byteAt(1, 0)", desk.byteAt(1, 0), b);
            for (int match = 0; match < 3; match++) {
                due.same("match(" + match + ", 0) of byte " + b, desk.match(match, 0), 1);
                due.same("match(" + match + ", 1) of byte " + b, desk.match(match, 1), 1);
            }
        }
    }

    private static void ownMemory() {
        due.sentence("Terms", "All memory is the class's own.");
        GlobDesk one = due.desk("hello", "h*");
        GlobDesk two = due.desk("abc", "*b*");
        due.same("match of one", one.match(2, 1), 1);
        due.same("match of two", two.match(2, 1), 1);
        due.same("one", Due.state(one), "value 104 101 108 108 111, key 104 42, spans 1+4");
        due.same("two", Due.state(two), "value 97 98 99, key 42 98 42, spans 0+1 2+1");
        two.clear(0);
        two.clear(1);
        two.match(0, 0);
        due.same("one", Due.state(one), "value 104 101 108 108 111, key 104 42, spans 1+4");
        due.same("two", Due.state(two), "value, key, spans");
    }

    private static void refusedSentence(String call) {
        due.sentence("Terms", "A call that is refused changes nothing.", call);
    }

    private static void refusedPut() {
        refusedSentence("put: which, n");
        for (int bad : Due.outside(0, 1)) {
            GlobDesk desk = matched();
            String before = Due.state(desk);
            due.no("put(" + bad + ", 1, 1)", desk.put(bad, 1, 1));
            due.same("put(" + bad + ", 1, 1)", Due.state(desk), before);
        }
        for (int bad : Due.outside(1, 8)) {
            GlobDesk desk = matched();
            String before = Due.state(desk);
            due.no("put(0, 1, " + bad + ")", desk.put(0, 1, bad));
            due.no("put(1, 1, " + bad + ")", desk.put(1, 1, bad));
            due.same("put(.., 1, " + bad + ")", Due.state(desk), before);
        }
    }

    /** Not even the bytes for which there would have been room. */
    private static void refusedPutToFullRow() {
        refusedSentence("put: more than 100");
        for (int which = 0; which < 2; which++) {
            for (int n = 1; n <= 8; n++) {
                GlobDesk desk = due.desk("x", "*");
                due.same("match", desk.match(2, 0), 1);
                due.fill(desk, which, "y".repeat(100 - n));
                String before = Due.state(desk);
                due.no("put(" + which + ", .., " + n + ")", desk.put(which, -1, n));
                due.same("put(" + which + ", .., " + n + ")", Due.state(desk), before);
            }
        }
    }

    private static void refusedClear() {
        refusedSentence("clear");
        for (int bad : Due.outside(0, 1)) {
            GlobDesk desk = matched();
            String before = Due.state(desk);
            due.same("clear(" + bad + ")", desk.clear(bad), -1);
            due.same("clear(" + bad + ")", Due.state(desk), before);
        }
    }

    private static void refusedMatch() {
        refusedSentence("match");
        for (int bad : Due.outside(0, 2)) {
            GlobDesk desk = matched();
            String before = Due.state(desk);
            for (int good = 0; good < 3; good++) {
                due.same("match(" + bad + ", " + good + ")", desk.match(bad, good), -1);
                due.same("match(" + bad + ", " + good + ")", Due.state(desk), before);
                due.same("match(" + good + ", " + bad + ")", desk.match(good, bad), -1);
                due.same("match(" + good + ", " + bad + ")", Due.state(desk), before);
            }
        }
    }

    private static void refusedAsking() {
        refusedSentence("order, counts, span, byteAt, size");
        for (int bad : Due.outside(0, 5)) {
            GlobDesk desk = matched();
            String before = Due.state(desk);
            due.same("order(" + bad + ")", desk.order(bad), -2);
            due.no("counts(1, " + bad + ")", desk.counts(1, bad));
            due.no("counts(-1, " + bad + ")", desk.counts(-1, bad));
            due.same("span(" + bad + ", 0)", desk.span(bad, 0), -1);
            due.same("span(0, " + bad + ")", desk.span(0, bad), -1);
            due.same("byteAt(" + bad + ", 0)", desk.byteAt(bad, 0), -1);
            due.same("byteAt(0, " + bad + ")", desk.byteAt(0, bad), -1);
            due.same("size(" + bad + ")", desk.size(bad), -1);
            due.same("all of them with " + bad, Due.state(desk), before);
        }
    }

    /** Both rows have bytes and the last match has spans, so that any change can be seen. */
    private static GlobDesk matched() {
        GlobDesk desk = due.desk("hello", "*l*");
        due.same("match(2, 0)", desk.match(2, 0), 1);
        return desk;
    }
}
