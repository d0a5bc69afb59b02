import java.nio.charset.StandardCharsets;

/** Counts the calls whose answer is not the one that is due, and ends a test by that count. */
final class Due {
    private int calls = 0;
    private int wrong = 0;

    void same(String call, long got, long want) {
        calls++;
        if (got != want) {
            wrong++;
            System.out.println(call + " answered " + got + ", due is " + want);
        }
    }

    void yes(String call, boolean got) {
        same(call, got ? 1 : 0, 1);
    }

    void no(String call, boolean got) {
        same(call, got ? 1 : 0, 0);
    }

    /** The whole row is read back byte by byte, and one place before and behind it. */
    void row(String call, GlobDesk desk, int which, String want) {
        byte[] bytes = want.getBytes(StandardCharsets.ISO_8859_1);
        same(call + ": size(" + which + ")", desk.size(which), bytes.length);
        for (int i = 0; i < bytes.length; i++) {
            same(call + ": byteAt(" + which + ", " + i + ")", desk.byteAt(which, i), bytes[i] & 255);
        }
        same(call + ": byteAt before", desk.byteAt(which, -1), -1);
        same(call + ": byteAt behind", desk.byteAt(which, bytes.length), -1);
    }

    /** The spans as begin, length, begin, length .. */
    void spans(String call, GlobDesk desk, int... want) {
        same(call + ": spans()", desk.spans(), want.length / 2);
        for (int i = 0; i < want.length; i++) {
            same(call + ": span(" + i / 2 + ", " + i % 2 + ")", desk.span(i / 2, i % 2), want[i]);
        }
        same(call + ": span behind", desk.span(want.length / 2, 0), -1);
        same(call + ": span behind", desk.span(want.length / 2, 1), -1);
        same(call + ": span before", desk.span(-1, 0), -1);
        same(call + ": span before", desk.span(-1, 1), -1);
    }

    void end() {
        System.out.println(calls + " answers looked at, " + wrong + " not as due");
        if (wrong != 0 || calls == 0) {
            System.exit(1);
        }
    }

    /** A new object with these rows, one char a byte. */
    static GlobDesk desk(String value, String key) {
        GlobDesk desk = new GlobDesk();
        fill(desk, 0, value);
        fill(desk, 1, key);
        return desk;
    }

    static void fill(GlobDesk desk, int which, String text) {
        for (int i = 0; i < text.length(); i += 8) {
            String part = text.substring(i, Math.min(text.length(), i + 8));
            if (!desk.put(which, packed(part), part.length())) {
                throw new IllegalStateException("put refused " + part);
            }
        }
    }

    static void refill(GlobDesk desk, int which, String text) {
        desk.clear(which);
        fill(desk, which, text);
    }

    static long packed(String part) {
        long v = 0;
        for (int i = 0; i < part.length(); i++) {
            v = v << 8 | part.charAt(i) & 255;
        }
        return v;
    }
}
