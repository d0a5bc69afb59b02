import java.math.BigInteger;
import java.util.ArrayList;
import java.util.List;
import java.util.Random;

/**
 * Long runs of calls beside a slow model written another way: texts, BigIntegers, and a search that
 * tries for each star every length from none upwards. The seeds are fixed, so each run is the same.
 */
public final class ModelTest {
    private static final int RUNS = 3000;
    private static final int CALLS = 512;
    private static final int LONG_PAIRS = 40000;
    private static final String[] ALPHABETS = {
        "ab*", "aA*?", "aAbB*?\\", "0123456789", "01x", "09/:", "@AZ[`az{_", "a*", "\\*a", "\0\u007f\u0080\u00ff*",
    };
    private static final int[] ODD = {-1, 2, 3, 6, 99, 100, Integer.MIN_VALUE, Integer.MAX_VALUE};

    /** What the document says, as plainly as it can be written. */
    private static final class Model {
        final String[] rows = {"", ""};
        List<int[]> spans = new ArrayList<>();

        boolean put(int which, long v, int n) {
            if (which != 0 && which != 1 || n < 1 || n > 8 || rows[which].length() + n > 100) {
                return false;
            }
            byte[] all = java.nio.ByteBuffer.allocate(8).putLong(v).array();
            for (int i = 8 - n; i < 8; i++) {
                rows[which] += (char) (all[i] & 255);
            }
            return true;
        }

        int clear(int which) {
            int had = size(which);
            if (had >= 0) {
                rows[which] = "";
            }
            return had;
        }

        int size(int which) {
            return which == 0 || which == 1 ? rows[which].length() : -1;
        }

        int byteAt(int which, int i) {
            return i >= 0 && i < size(which) ? rows[which].charAt(i) : -1;
        }

        int match(int match, int comparator) {
            if (match < 0 || match > 2 || comparator < 0 || comparator > 2) {
                return -1;
            }
            List<int[]> way = null;
            if (match == 0) {
                way = order(comparator) == 0 ? List.of() : null;
            } else if (comparator != 2) {
                String value = upper(rows[0], comparator);
                String key = upper(rows[1], comparator);
                int place = value.indexOf(key);
                if (match == 2) {
                    way = way(value, 0, key, 0, new boolean[101][101]);
                } else if (place >= 0) {
                    way = List.of(new int[] {place, key.length()});
                }
            }
            spans = way == null ? List.of() : way;
            return way == null ? 0 : 1;
        }

        int span(int i, int what) {
            return i < 0 || i >= spans.size() || what < 0 || what > 1 ? -1 : spans.get(i)[what];
        }

        int order(int comparator) {
            if (comparator < 0 || comparator > 2) {
                return -2;
            }
            if (comparator != 2) {
                return Integer.signum(upper(rows[0], comparator).compareTo(upper(rows[1], comparator)));
            }
            return number(rows[0]).compareTo(number(rows[1]));
        }

        boolean counts(int many, int relation) {
            int sign = BigInteger.valueOf(many).compareTo(number(rows[1]));
            boolean[] answers = {sign > 0, sign >= 0, sign < 0, sign <= 0, sign == 0, sign != 0};
            return many >= 0 && relation >= 0 && relation < 6 && answers[relation];
        }

        private static BigInteger number(String row) {
            String digits = row.replaceFirst("(?s)[^0-9].*", "");
            return digits.isEmpty() ? BigInteger.TEN.pow(200) : new BigInteger(digits);
        }

        private static String upper(String row, int comparator) {
            StringBuilder text = new StringBuilder();
            for (char c : row.toCharArray()) {
                text.append(comparator == 0 && "abcdefghijklmnopqrstuvwxyz".indexOf(c) >= 0 ? (char) (c ^ 32) : c);
            }
            return text.toString();
        }

        /** The spans of the stars from k on, or null; dead keeps the places that are known to fail. */
        private static List<int[]> way(String value, int v, String key, int k, boolean[][] dead) {
            if (k == key.length()) {
                return v == value.length() ? new ArrayList<>() : null;
            }
            if (dead[v][k]) {
                return null;
            }
            List<int[]> rest = null;
            char c = key.charAt(k);
            if (c == '*') {
                for (int n = 0; v + n <= value.length() && rest == null; n++) {
                    rest = way(value, v + n, key, k + 1, dead);
                    if (rest != null) {
                        rest.add(0, new int[] {v, n});
                    }
                }
            } else if (v < value.length()) {
                boolean escapes = c == '\\' && k + 1 < key.length();
                char plain = escapes ? key.charAt(k + 1) : c;
                if (c == '?' || plain == value.charAt(v)) {
                    rest = way(value, v + 1, key, k + (escapes ? 2 : 1), dead);
                }
            }
            dead[v][k] = rest == null;
            return rest;
        }
    }

    private final Due due = new Due();
    private final Random random;
    private final String alphabet;
    private final GlobDesk desk = new GlobDesk();
    private final Model model = new Model();
    private final StringBuilder story = new StringBuilder();
    private int calls = 0;

    private ModelTest(int seed) {
        random = new Random(seed);
        alphabet = ALPHABETS[seed % ALPHABETS.length];
    }

    public static void main(String[] args) {
        int[] matched = new int[3];
        for (int seed = 0; seed < RUNS; seed++) {
            new ModelTest(seed).run(matched);
        }
        System.out.println(RUNS + " runs like the model's; matches that were 1: is " + matched[0]
            + ", contains " + matched[1] + ", like " + matched[2]);
        List<String> values = allTexts("aB*\\", 4);
        List<String> keys = allTexts("ab*?\\", 4);
        for (String value : values) {
            for (String key : keys) {
                new ModelTest(0).everyMatch(value, key);
            }
        }
        System.out.println(values.size() * keys.size() + " small pairs of rows like the model's");
        int like = 0;
        for (int seed = 0; seed < LONG_PAIRS; seed++) {
            like += new ModelTest(seed).longPair();
        }
        System.out.println(LONG_PAIRS + " long pairs of rows like the model's; like without case " + like);
    }

    /** The value is written from the key: rows this long are hardly ever like each other by chance. */
    private int longPair() {
        StringBuilder key = new StringBuilder();
        StringBuilder value = new StringBuilder();
        int most = random.nextInt(101);
        for (int mark = 0; mark < most; mark++) {
            char letter = "aAbB".charAt(random.nextInt(4));
            int kind = random.nextInt(12);
            key.append(kind < 2 ? "*" : kind == 2 ? "?" : kind == 3 ? "\\*" : String.valueOf(letter));
            String one = kind == 3 ? "*" : String.valueOf(letter);
            value.append(kind < 2 ? "abAB".substring(random.nextInt(5)) : one);
        }
        if (random.nextInt(4) == 0 && value.length() > 0) {
            value.setCharAt(random.nextInt(value.length()), 'a');
        }
        key.setLength(Math.min(100, key.length()));
        value.setLength(Math.min(100, value.length()));
        everyMatch(value.toString(), key.toString());
        return model.match(2, 0);
    }

    private static List<String> allTexts(String alphabet, int most) {
        List<String> texts = new ArrayList<>(List.of(""));
        for (int i = 0; i < texts.size(); i++) {
            for (char c : alphabet.toCharArray()) {
                if (texts.get(i).length() < most) {
                    texts.add(texts.get(i) + c);
                }
            }
        }
        return texts;
    }

    private void everyMatch(String value, String key) {
        due.fill(desk, 0, value);
        due.fill(desk, 1, key);
        model.rows[0] = value;
        model.rows[1] = key;
        story.append("value ").append(value).append(", key ").append(key).append('\n');
        for (int comparator = 0; comparator < 3; comparator++) {
            answer("order", desk.order(comparator), model.order(comparator));
            for (int match = 0; match < 3; match++) {
                answer("match " + match + " by " + comparator, desk.match(match, comparator),
                    model.match(match, comparator));
                answer("spans", desk.spans(), model.spans.size());
                for (int i = 0; i <= model.spans.size(); i++) {
                    answer("span begin", desk.span(i, 0), model.span(i, 0));
                    answer("span length", desk.span(i, 1), model.span(i, 1));
                }
            }
        }
    }

    /** A step makes one call or two, and no call behind the last promised one is looked at. */
    private void run(int[] matched) {
        while (calls < CALLS - 1) {
            step(matched);
        }
    }

    /** One in sixteen is an odd number, so that refusals come in every state. */
    private int pick(int bound) {
        return random.nextInt(16) == 0 ? ODD[random.nextInt(ODD.length)] : random.nextInt(bound);
    }

    private void step(int[] matched) {
        int kind = random.nextInt(20);
        if (kind < 6) {
            stepPut();
        } else if (kind < 8) {
            int which = pick(2);
            answer("clear(" + which + ")", desk.clear(which), model.clear(which));
        } else if (kind < 13) {
            int match = pick(3);
            int comparator = pick(3);
            int want = model.match(match, comparator);
            answer("match(" + match + ", " + comparator + ")", desk.match(match, comparator), want);
            if (want == 1) {
                matched[match]++;
            }
        } else if (kind < 16) {
            stepSpan();
        } else {
            stepAsk(kind);
        }
    }

    private void stepPut() {
        int which = pick(2);
        int n = random.nextInt(16) == 0 ? pick(12) : 1 + random.nextInt(8);
        long v = random.nextLong();
        for (int i = 0; i < 8; i++) {
            v = v << 8 | alphabet.charAt(random.nextInt(alphabet.length()));
        }
        answer("put(" + which + ", " + v + "L, " + n + ")", desk.put(which, v, n) ? 1 : 0,
            model.put(which, v, n) ? 1 : 0);
    }

    private void stepSpan() {
        answer("spans()", desk.spans(), model.spans.size());
        int i = pick(Math.max(1, model.spans.size() + 1));
        int what = pick(2);
        answer("span(" + i + ", " + what + ")", desk.span(i, what), model.span(i, what));
    }

    private void stepAsk(int kind) {
        if (kind == 16) {
            int comparator = pick(3);
            answer("order(" + comparator + ")", desk.order(comparator), model.order(comparator));
        } else if (kind == 17) {
            int many = random.nextInt(3) == 0 ? nearKey() : pick(1 << (1 + random.nextInt(30)));
            int relation = pick(6);
            answer("counts(" + many + ", " + relation + ")", desk.counts(many, relation) ? 1 : 0,
                model.counts(many, relation) ? 1 : 0);
        } else if (kind == 18) {
            int which = pick(2);
            int i = pick(101);
            answer("byteAt(" + which + ", " + i + ")", desk.byteAt(which, i), model.byteAt(which, i));
        } else {
            int which = pick(2);
            answer("size(" + which + ")", desk.size(which), model.size(which));
        }
    }

    /** The key's number, one less, or one more, cut to an int. */
    private int nearKey() {
        return Model.number(model.rows[1]).intValue() + random.nextInt(3) - 1;
    }

    private void answer(String call, long got, long want) {
        calls++;
        story.append(call).append(" = ").append(got).append('\n');
        if (got != want) {
            System.out.print(story);
            due.same(call, got, want);
            due.end();
        }
    }
}
