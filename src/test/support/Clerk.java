/** A FormatDesk spoken to in Strings. What a call throws is answered as its name behind "throws." */
final class Clerk {
    final FormatDesk desk = new FormatDesk();

    Clerk put(String tape) {
        for (int start = 0; start < tape.length(); start += 8) {
            int end = Math.min(tape.length(), start + 8);
            if (!desk.type(word(tape.substring(start, end)), end - start)) {
                throw new AssertionError("not typed: " + tape);
            }
        }
        return this;
    }

    static long word(String marks) {
        long word = 0;
        for (char mark : marks.toCharArray()) {
            word = word << 8 | mark;
        }
        return word;
    }

    /** A decimal where it begins as one, a text where it begins with a '. */
    static Clerk with(String... values) {
        Clerk clerk = new Clerk();
        for (String value : values) {
            if (value.startsWith("'")) {
                clerk.put(value.substring(1)).desk.text();
            } else {
                clerk.put(value).desk.decimal();
            }
        }
        return clerk;
    }

    String text() {
        return String.valueOf(desk.text());
    }

    String decimal() {
        try {
            return String.valueOf(desk.decimal());
        } catch (RuntimeException e) {
            return "throws." + e.getClass().getSimpleName();
        }
    }

    String fill() {
        try {
            return String.valueOf(desk.fill());
        } catch (RuntimeException e) {
            return "throws." + e.getClass().getSimpleName();
        }
    }

    String letter(int i) {
        try {
            return String.valueOf((char) desk.letter(i));
        } catch (RuntimeException e) {
            return "throws." + e.getClass().getSimpleName();
        }
    }

    String fault() {
        return desk.fault(0) + "@" + desk.fault(1);
    }

    /** What was filled last: all of it, or the first and the last 150 characters, to stay below 512 calls. */
    String filled() {
        int many = desk.letters();
        return many <= 300 ? part(0, many) : part(0, 150) + part(many - 150, many);
    }

    private String part(int start, int end) {
        StringBuilder all = new StringBuilder();
        for (int i = start; i < end; i++) {
            all.append((char) desk.letter(i));
        }
        return all.toString();
    }

    /** What the pattern answers: the text that comes of it, or its fault as kind@place. */
    String filled(String pattern) {
        String answer = answerOf(pattern);
        return answer.isEmpty() ? filled() : answer;
    }

    /** Empty if a text comes of it whose length all calls tell alike. */
    private String answerOf(String pattern) {
        String answer = put(pattern).fill();
        if (answer.equals("throws.IllegalArgumentException")) {
            return fault();
        }
        if (!answer.equals(String.valueOf(desk.letters())) || !fault().equals("0@0")) {
            return "fill() " + answer + ", letters() " + desk.letters() + ", fault " + fault();
        }
        return "";
    }

    /** As filled(pattern), but the whole text: with a second object, as one is used for 512 calls at most. */
    static String all(String pattern, String... values) {
        Clerk one = with(values);
        Clerk other = with(values);
        String answer = one.answerOf(pattern);
        String again = other.answerOf(pattern);
        if (!answer.isEmpty() || !again.isEmpty()) {
            return answer.equals(again) ? answer : answer + " and " + again;
        }
        int many = one.desk.letters();
        int half = Math.min(300, many);
        return one.part(0, half) + other.part(half, many);
    }

    /** All that can be told of the object; the tape and the VALUES are used up by it. */
    String state() {
        String seen = "fault " + fault() + ", filled " + desk.letters() + " [" + filled() + "]";
        String tape = text();
        if (tape.equals("-1")) {
            tape = fill() + " " + fault() + " [" + filled() + "]";
        }
        return seen + ", tape " + tape + ", values " + values() + ", clear " + desk.clear();
    }

    private String values() {
        for (int many = 0; many <= 12; many++) {
            if (!put("%q".repeat(many)).fill().startsWith("throws.")) {
                return filled();
            }
        }
        return "not to be filled";
    }
}
