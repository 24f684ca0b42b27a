import java.util.Random;
import java.util.function.Supplier;

/** All promises: runs of 512 calls, right and wrong ones, drawn from fixed seeds, against the ModelDesk. */
public final class RunsTest {
    private static final Due DUE = new Due();
    private static final int RUNS = 2000;
    private static final int CALLS = 512;
    private static final int[] EDGES = {Integer.MIN_VALUE, -2, -1, 0, 1, 2, 8, 9, 11, 12, 13, 599, 600, Integer.MAX_VALUE};
    private static final String[] DECIMALS = {"5", "-12.50", "-0", "0.05", "99.9", "-7", "100", "65", "9.995", "-0.5", "00.10",
        "999999999999999999.999999999999", "-0.000000000001"};
    private static final String[] WORDS = {"", "5", "abc", "a\"b\\c", "%", "1.", "1234567890123456789", "-", "abcdefgh".repeat(7)};
    private static final String[] FOR_DECIMALS = {"%d", "%s", "%q|", "%5d", "%+.2f", "%e", "%g", "%#X", "%o", "%b", "%-9.3G|",
        "%05.1f", "% .0E", "%99d", "%.60d", "%#.0f"};
    private static final String[] FOR_TEXTS = {"%s", "%q", "%-5s|", "%9.2q", "%.s", "%99s"};
    private static final String[] PARTS = {"%", "%%", "%d", "%s", "%c", "%*d", "%.*f", "%*.*s", "%y", "%100d", "xxxxxxxx", "a"};

    private final Random random;
    private final Clerk clerk = new Clerk();
    private final ModelDesk model = new ModelDesk();
    private final StringBuilder run = new StringBuilder();
    private int calls;

    private RunsTest(int seed) {
        random = new Random(seed);
    }

    /** Nothing is asked any more behind the 512th call. */
    private void look(String call, Supplier<String> got, Supplier<String> want) {
        if (calls < CALLS) {
            calls++;
            run.append(call).append("; ");
            String answer = got.get();
            String due = want.get();
            DUE.same(answer.equals(due) ? call : run.toString(), answer, due);
        }
    }

    private void type(long word, int n) {
        look("type(" + word + ", " + n + ")", () -> String.valueOf(clerk.desk.type(word, n)), () -> model.type(word, n));
    }

    private void put(String tape) {
        for (int start = 0; start < tape.length(); start += 8) {
            int end = Math.min(tape.length(), start + 8);
            type(Clerk.word(tape.substring(start, end)), end - start);
        }
    }

    private int edge() {
        return random.nextBoolean() ? random.nextInt(14) : EDGES[random.nextInt(EDGES.length)];
    }

    private String some(String[] tapes) {
        return tapes[random.nextInt(tapes.length)];
    }

    private void wrongType() {
        long word = random.nextInt(3) == 0 ? random.nextLong() : Clerk.word("abcdefgh") ^ 255L << 8 * random.nextInt(8);
        type(word, random.nextInt(3) == 0 ? edge() : 1 + random.nextInt(8));
    }

    private void text() {
        look("text()", clerk::text, model::text);
    }

    private void decimal() {
        look("decimal()", clerk::decimal, model::decimal);
    }

    private void fill() {
        look("fill()", clerk::fill, model::fill);
        look("fault(0)", () -> String.valueOf(clerk.desk.fault(0)), () -> model.fault(0));
        look("fault(1)", () -> String.valueOf(clerk.desk.fault(1)), () -> model.fault(1));
    }

    private String numberOf(String letter) {
        return letter.startsWith("throws.") ? letter : String.valueOf((int) letter.charAt(0));
    }

    private void letter(int i) {
        look("letter(" + i + ")", () -> numberOf(clerk.letter(i)), () -> model.letter(i));
    }

    private void letters() {
        look("letters()", () -> String.valueOf(clerk.desk.letters()), model::letters);
        int many = Math.max(0, Integer.parseInt(model.letters()));
        for (int i = 0; i < 10 && many > 0; i++) {
            letter(random.nextInt(many));
        }
        letter(many - random.nextInt(2));
    }

    private void alike() {
        int a = edge();
        int b = edge();
        look("alike(" + a + ", " + b + ")", () -> String.valueOf(clerk.desk.alike(a, b)), () -> model.alike(a, b));
    }

    /** One FIELD for each VALUE, but now and then another one, one more, or one less. */
    private void patternFilled() {
        boolean wide = random.nextInt(6) == 0;
        for (Object value : model.values()) {
            if (random.nextInt(40) != 0) {
                put(wide ? "%85s" : some(value instanceof String ? FOR_TEXTS : FOR_DECIMALS));
            }
            if (random.nextInt(40) == 0) {
                put(some(PARTS));
            }
        }
        if (random.nextInt(4) == 0) {
            put(some(PARTS));
        }
        fill();
        letters();
    }

    private void valueMore() {
        if (random.nextInt(20) == 0) {
            put(some(PARTS));
        }
        boolean asText = random.nextInt(3) == 0;
        put(some(asText || random.nextInt(9) == 0 ? WORDS : DECIMALS));
        if (asText) {
            text();
        } else {
            decimal();
        }
    }

    private void one() {
        switch (random.nextInt(16)) {
            case 0 -> put(some(PARTS));
            case 1 -> wrongType();
            case 2 -> text();
            case 3 -> decimal();
            case 4, 5, 6, 7, 8, 9 -> valueMore();
            case 10, 11, 12 -> patternFilled();
            case 13, 14 -> alike();
            default -> rare();
        }
    }

    private void rare() {
        if (random.nextInt(3) == 0) {
            look("clear()", () -> String.valueOf(clerk.desk.clear()), model::clear);
        }
        int what = edge();
        look("fault(" + what + ")", () -> String.valueOf(clerk.desk.fault(what)), () -> model.fault(what));
        letter(edge());
    }

    public static void main(String[] args) {
        for (int seed = 0; seed < RUNS; seed++) {
            RunsTest test = new RunsTest(seed);
            while (test.calls < CALLS) {
                test.one();
            }
        }
        DUE.end();
    }
}
