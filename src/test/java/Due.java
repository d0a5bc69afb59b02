import java.nio.charset.StandardCharsets;

/**
 * Counts the calls whose answer is not the one that is due, and ends a test by that count. A test is
 * one method for each sentence of the document; it names its sentence first, so that a wrong answer
 * tells which promise, and which of its sentences, does not hold.
 */
final class Due {
    private int calls = 0;
    private int wrong = 0;
    private int sentences = 0;
    private int emptySentences = 0;
    private int callsOfSentence = 1;
    private String sentence = "";

    /** The answers from here on belong to these words of that part of the document. */
    void sentence(String where, String words) {
        begin(where + ", \"" + words + "\": ");
    }

    /** For one of the cases that the words hold for. */
    void sentence(String where, String words, String inCase) {
        begin(where + ", \"" + words + "\" (" + inCase + "): ");
    }

    private void begin(String name) {
        closeSentence();
        sentences++;
        callsOfSentence = 0;
        sentence = name;
    }

    private void closeSentence() {
        if (callsOfSentence == 0) {
            emptySentences++;
            System.out.println(sentence + "no answer was looked at");
        }
    }

    void same(String call, long got, long want) {
        calls++;
        callsOfSentence++;
        if (got != want) {
            wrong++;
            System.out.println(sentence + call + " answered " + got + ", due is " + want);
        }
    }

    void same(String call, String got, String want) {
        calls++;
        callsOfSentence++;
        if (!got.equals(want)) {
            wrong++;
            System.out.println(sentence + call + " left " + got + ", due is " + want);
        }
    }

    void yes(String call, boolean got) {
        same(call, got ? 1 : 0, 1);
    }

    void no(String call, boolean got) {
        same(call, got ? 1 : 0, 0);
    }

    /** The whole row is read back byte by byte, and one place before and behind it. */
    void row(String call, GlobDesk desk, int which, String want) {
        byte[] bytes = want.getBytes(StandardCharsets.ISO_8859_1);
        same(call + ": size(" + which + ")", desk.size(which), bytes.length);
        for (int i = 0; i < bytes.length; i++) {
            same(call + ": byteAt(" + which + ", " + i + ")", desk.byteAt(which, i), bytes[i] & 255);
        }
        same(call + ": byteAt before", desk.byteAt(which, -1), -1);
        same(call + ": byteAt behind", desk.byteAt(which, bytes.length), -1);
    }

    /** The spans as begin, length, begin, length .. */
    void spans(String call, GlobDesk desk, int... want) {
        same(call + ": spans()", desk.spans(), want.length / 2);
        for (int i = 0; i < want.length; i++) {
            same(call + ": span(" + i / 2 + ", " + i % 2 + ")", desk.span(i / 2, i % 2), want[i]);
        }
        same(call + ": span behind", desk.span(want.length / 2, 0), -1);
        same(call + ": span behind", desk.span(want.length / 2, 1), -1);
        same(call + ": span before", desk.span(-1, 0), -1);
        same(call + ": span before", desk.span(-1, 1), -1);
    }

    /** The answers of one match by comparators 0, 1 and 2, and that it left the rows alone. */
    void match(int match, String value, String key, int... want) {
        GlobDesk desk = desk(value, key);
        for (int comparator = 0; comparator < want.length; comparator++) {
            String call = "'" + value + "' match(" + match + ", " + comparator + ") '" + key + "'";
            same(call, desk.match(match, comparator), want[comparator]);
        }
        row("after match", desk, 0, value);
        row("after match", desk, 1, key);
    }

    /** A match that is 1, and its spans as begin, length, begin, length .. */
    void spansOf(int match, int comparator, String value, String key, int... want) {
        GlobDesk desk = desk(value, key);
        String call = "'" + value + "' match(" + match + ", " + comparator + ") '" + key + "'";
        same(call, desk.match(match, comparator), 1);
        spans(call, desk, want);
    }

    /** The order by one comparator, and the other way round. */
    void order(int comparator, String value, String key, int want) {
        String call = "order(" + comparator + ") of '" + value + "' and '" + key + "'";
        same(call, desk(value, key).order(comparator), want);
        same(call + " turned", desk(key, value).order(comparator), -want);
    }

    void end() {
        closeSentence();
        System.out.println(sentences + " sentences, " + calls + " answers looked at, " + wrong + " not as due");
        if (wrong != 0 || calls == 0 || emptySentences != 0) {
            System.exit(1);
        }
    }

    /** Numbers outside low .. high: the nearest, the farthest, and some that a mask would let in. */
    static int[] outside(int low, int high) {
        return new int[] {
            low - 1, high + 1, low - 2, high + 2, 100, 101, -100, low + 256, high - 256, low + 65536,
            low + (1 << 30), Integer.MIN_VALUE, Integer.MIN_VALUE + low, Integer.MIN_VALUE + high,
            Integer.MAX_VALUE, Integer.MAX_VALUE - 1,
        };
    }

    /** All that can be asked of an object: both rows and the spans. */
    static String state(GlobDesk desk) {
        StringBuilder text = new StringBuilder();
        for (int which = 0; which < 2; which++) {
            int size = desk.size(which);
            text.append(which == 0 ? "value" : ", key");
            for (int i = 0; i < size; i++) {
                text.append(' ').append(desk.byteAt(which, i));
            }
        }
        int spans = desk.spans();
        text.append(", spans");
        for (int i = 0; i < spans; i++) {
            text.append(' ').append(desk.span(i, 0)).append('+').append(desk.span(i, 1));
        }
        return text.toString();
    }

    /** A new object with these rows, one char a byte. */
    GlobDesk desk(String value, String key) {
        GlobDesk desk = new GlobDesk();
        fill(desk, 0, value);
        fill(desk, 1, key);
        return desk;
    }

    void fill(GlobDesk desk, int which, String text) {
        for (int i = 0; i < text.length(); i += 8) {
            String part = text.substring(i, Math.min(text.length(), i + 8));
            yes("put of '" + part + "' to row " + which, desk.put(which, packed(part), part.length()));
        }
    }

    void refill(GlobDesk desk, int which, String text) {
        desk.clear(which);
        fill(desk, which, text);
    }

    static long packed(String part) {
        long v = 0;
        for (int i = 0; i < part.length(); i++) {
            v = v << 8 | part.charAt(i) & 255;
        }
        return v;
    }
}
