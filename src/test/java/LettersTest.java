/** Promises 8 and 9: letter, letters. */
public final class LettersTest {
    private static final String NONE_SUCH = "throws.NoSuchElementException";

    public static void main(String[] args) {
        Due due = new Due();
        Clerk clerk = new Clerk();
        due.same("letters() of a new one", clerk.desk.letters(), -1);
        due.same("letter(0) of a new one", clerk.letter(0), NONE_SUCH);
        clerk.put("%").fill();
        due.same("letters() behind a fault", clerk.desk.letters(), -1);
        due.same("letter(0) behind a fault", clerk.letter(0), NONE_SUCH);
        clerk.fill();
        due.same("letters() of nothing", clerk.desk.letters(), 0);
        due.same("letter(0) of nothing", clerk.letter(0), NONE_SUCH);
        clerk.put("abcdef").fill();
        due.same("letters()", clerk.desk.letters(), 6);
        due.same("letter(0)", clerk.letter(0), "a");
        due.same("letter(5)", clerk.letter(5), "f");
        for (int i : new int[] {6, 7, 600, -1, Integer.MAX_VALUE, Integer.MIN_VALUE}) {
            due.same("letter(" + i + ")", clerk.letter(i), NONE_SUCH);
        }
        clerk.put("xy").fill();
        due.same("letters() of a shorter one", clerk.desk.letters(), 2);
        due.same("letter(1) of a shorter one", clerk.letter(1), "y");
        due.same("letter(2) of a shorter one", clerk.letter(2), NONE_SUCH);
        clerk.put("abcd%d").fill();
        due.same("letters() behind a fault of filling", clerk.desk.letters(), 2);
        due.same("letter(0) behind a fault of filling", clerk.letter(0), "x");
        due.same("letter(2) behind a fault of filling", clerk.letter(2), NONE_SUCH);
        clerk.desk.clear();
        due.same("letters() behind clear()", clerk.desk.letters(), 2);
        due.end();
    }
}
