import java.math.BigDecimal;
import java.util.ArrayList;
import java.util.List;
import java.util.Random;

/** Promises 3 to 10 on many patterns and values, drawn from fixed seeds, against the Model. */
public final class ModelTest {
    private static final Due DUE = new Due();
    private static final int RUNS = 60000;

    private final Random random;
    private final Clerk clerk = new Clerk();
    private final List<Object> values = new ArrayList<>();
    private final List<String> tapes = new ArrayList<>();

    private ModelTest(int seed) {
        random = new Random(seed);
    }

    private String some(String marks, int least, int most) {
        int many = least + random.nextInt(most - least + 1);
        StringBuilder all = new StringBuilder();
        for (int i = 0; i < many; i++) {
            all.append(marks.charAt(random.nextInt(marks.length())));
        }
        return all.toString();
    }

    /** Mostly digits that make ties and carries. */
    private String decimal() {
        String[] digits = {"0123456789", "9", "09", "05", "0459", "4995", "0001"};
        String ahead = some(digits[random.nextInt(digits.length)], 1, random.nextInt(4) == 0 ? 18 : 4);
        String behind = some(digits[random.nextInt(digits.length)], 1, random.nextInt(4) == 0 ? 12 : 5);
        return some("-", 0, 1) + ahead + (random.nextInt(3) == 0 ? "" : "." + behind);
    }

    private String star() {
        return some("-", 0, 1) + random.nextInt(random.nextInt(9) == 0 ? 120 : 20) + (random.nextBoolean() ? "" : ".5");
    }

    private void give(boolean asText, String tape) {
        tapes.add((asText ? "'" : "") + tape);
        values.add(asText ? tape : new BigDecimal(tape));
        String many = asText ? clerk.put(tape).text() : clerk.put(tape).decimal();
        DUE.same("value " + tape, many, String.valueOf(values.size()));
    }

    private boolean room() {
        return values.size() < 12 && random.nextInt(60) != 0;
    }

    /** So wide that seven of them are too long. */
    private String wideField() {
        if (room()) {
            give(false, decimal());
        }
        return "%" + some("-+0# ", 0, 3) + some("9", 1, 1) + some("0123456789", 1, 1) + some("dxob", 1, 1);
    }

    /** A FIELD, mostly a right one, and the VALUES it takes, mostly. */
    private String field() {
        String width = random.nextInt(3) == 0 ? "*" : random.nextInt(2) == 0 ? "" : some("123456789", 1, 2);
        String precision = switch (random.nextInt(5)) {
            case 0 -> ".*";
            case 1 -> "." + some("0123456789", 0, 2);
            case 2 -> "." + some("012345", 0, 1);
            default -> "";
        };
        char letter = "dxXobfeEgGsqcfegG".charAt(random.nextInt(17));
        if (width.equals("*") && room()) {
            give(false, star());
        }
        if (precision.equals(".*") && room()) {
            give(false, star());
        }
        if (room()) {
            giveFor(letter);
        }
        String bad = random.nextInt(300) == 0 ? some("%*.0-zD5", 1, 1) : "";
        return "%" + some("-+0# ", 0, 3) + width + bad + precision + letter;
    }

    private void giveFor(char letter) {
        boolean words = "sqc".indexOf(letter) >= 0;
        if (random.nextInt(80) == 0 || words && random.nextBoolean()) {
            give(true, some("ab\"\\ %5", letter == 'c' ? 1 : 0, letter == 'c' ? 1 : random.nextInt(5) == 0 ? 60 : 8));
        } else {
            boolean mark = letter == 'c' && random.nextInt(10) != 0;
            give(false, mark ? 32 + random.nextInt(95) + ".9" : decimal());
        }
    }

    private String pattern() {
        StringBuilder all = new StringBuilder(some("ab |", 0, 3));
        int fields = random.nextInt(random.nextInt(3) == 0 ? 14 : 4);
        boolean wide = random.nextInt(5) == 0;
        for (int i = 0; i < fields && all.length() < 180; i++) {
            all.append(wide ? wideField() : field()).append(random.nextInt(4) == 0 ? "%%" : some("x,", 0, 2));
        }
        return all.substring(0, Math.min(all.length(), random.nextInt(400) == 0 ? random.nextInt(9) : 200));
    }

    private void alike() {
        for (int a = 0; a + 1 < values.size(); a++) {
            Object one = values.get(a);
            Object other = values.get(a + 1);
            boolean same = one instanceof BigDecimal x && other instanceof BigDecimal y ? x.compareTo(y) == 0
                : one.equals(other);
            DUE.same("alike " + one + ", " + other, clerk.desk.alike(a, a + 1), same);
        }
    }

    private static String outer(String all) {
        return all.length() <= 300 ? all : all.substring(0, 150) + all.substring(all.length() - 150);
    }

    private void go() {
        String pattern = pattern();
        DUE.same(pattern + " of " + tapes, clerk.filled(pattern), outer(Model.fill(pattern, values).words()));
        alike();
        DUE.same("clear()", clerk.desk.clear(), values.size());
    }

    public static void main(String[] args) {
        for (int seed = 0; seed < RUNS; seed++) {
            new ModelTest(seed).go();
        }
        DUE.end();
    }
}
