/** Counts the answers that are not the ones that are due. */
final class Due {
    private String sentence = "";
    private int wrong;
    private int looked;
    private int lookedBefore = -1;

    /** The sentence of the document that the answers from here on are due by; one without an answer is wrong. */
    void sentence(String words) {
        closeSentence();
        lookedBefore = looked;
        sentence = words;
    }

    private void closeSentence() {
        if (looked == lookedBefore) {
            wrong++;
            System.out.println("no answer is looked at for: " + sentence);
        }
    }

    void same(String what, Object got, Object want) {
        looked++;
        if (!want.equals(got)) {
            wrong++;
            System.out.println(what + ": answered " + got + ", due is " + want
                + (sentence.isEmpty() ? "" : " (" + sentence + ")"));
        }
    }

    /** What comes of the pattern, or its fault as kind@place, with a new object. */
    void fills(String want, String pattern, String... values) {
        same(pattern + " of " + String.join(", ", values), Clerk.all(pattern, values), want);
    }

    void end() {
        closeSentence();
        System.out.println(looked + " answers, " + wrong + " not as due");
        if (wrong != 0 || looked == 0) {
            System.exit(1);
        }
    }
}
