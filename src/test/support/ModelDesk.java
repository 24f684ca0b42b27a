import java.math.BigDecimal;
import java.util.ArrayList;
import java.util.List;

/** The document's promises said once more, with the Java library. Answers are Strings, as those of a Clerk. */
final class ModelDesk {
    private String tape = "";
    private final List<Object> values = new ArrayList<>();
    private String filled;
    private String fault = "0@0";

    /** The VALUES as they are now, to draw a PATTERN that fits them. */
    List<Object> values() {
        return values;
    }

    String type(long word, int n) {
        if (n < 1 || n > 8) {
            return "false";
        }
        StringBuilder more = new StringBuilder();
        for (int i = 0; i < n; i++) {
            more.insert(0, (char) (word >>> 8 * i & 255));
        }
        if (!more.toString().matches("[ -~]*") || tape.length() + n > 200) {
            return "false";
        }
        tape += more;
        return "true";
    }

    String text() {
        if (tape.length() > 60 || values.size() == 12) {
            return "-1";
        }
        values.add(tape);
        tape = "";
        return String.valueOf(values.size());
    }

    String decimal() {
        String words = tape;
        tape = "";
        if (!words.matches("-?[0-9]{1,18}(\\.[0-9]{1,12})?")) {
            return "throws.IllegalArgumentException";
        }
        if (values.size() == 12) {
            return "throws.IllegalStateException";
        }
        values.add(new BigDecimal(words));
        return String.valueOf(values.size());
    }

    String clear() {
        String many = String.valueOf(values.size());
        values.clear();
        return many;
    }

    String fill() {
        String pattern = tape;
        tape = "";
        Model.Answer answer = Model.fill(pattern, values);
        fault = answer.kind() + "@" + answer.place();
        if (answer.text() == null) {
            return "throws.IllegalArgumentException";
        }
        filled = answer.text();
        return letters();
    }

    String fault(int what) {
        return what == 0 || what == 1 ? fault.split("@")[what] : "-1";
    }

    String letter(int i) {
        boolean there = filled != null && i >= 0 && i < filled.length();
        return there ? String.valueOf((int) filled.charAt(i)) : "throws.NoSuchElementException";
    }

    String letters() {
        return String.valueOf(filled == null ? -1 : filled.length());
    }

    String alike(int a, int b) {
        int many = values.size();
        if (a < 0 || a >= many || b < 0 || b >= many) {
            return "false";
        }
        Object one = values.get(a);
        Object other = values.get(b);
        boolean decimals = one instanceof BigDecimal && other instanceof BigDecimal;
        return String.valueOf(decimals ? ((BigDecimal) one).compareTo((BigDecimal) other) == 0 : one.equals(other));
    }
}
