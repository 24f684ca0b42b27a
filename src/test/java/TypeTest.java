/** Promise 2. */
public final class TypeTest {
    private static final Due DUE = new Due();

    private static String tapeAfter(FormatDesk desk) {
        int many;
        try {
            many = desk.fill();
        } catch (IllegalArgumentException e) {
            return "fault " + desk.fault(0);
        }
        StringBuilder tape = new StringBuilder();
        for (int i = 0; i < many; i++) {
            tape.append((char) desk.letter(i));
        }
        return tape.toString();
    }

    private static void one(long word, int n, boolean goes, String tape) {
        FormatDesk desk = new FormatDesk();
        String call = "type(" + Long.toHexString(word) + ", " + n + ")";
        DUE.same(call, desk.type(word, n), goes);
        DUE.same(call + " tape", tapeAfter(desk), tape);
    }

    private static void counts() {
        long word = Clerk.word("abcdefgh");
        for (int n = 1; n <= 8; n++) {
            one(word, n, true, "abcdefgh".substring(8 - n));
        }
        for (int n : new int[] {0, 9, -1, 16, 256, Integer.MAX_VALUE, Integer.MIN_VALUE}) {
            one(word, n, false, "");
        }
    }

    private static void bytes() {
        for (int mark = 0; mark < 256; mark++) {
            boolean goes = mark >= 32 && mark <= 126;
            if (mark != '%') {
                one(0x6100620000L | (long) mark << 8 | 'z', 2, goes, goes ? (char) mark + "z" : "");
                one((long) mark << 56 | 0x41414141414141L, 8, goes, goes ? (char) mark + "AAAAAAA" : "");
            }
        }
        one(0xFFFFFFFFFFFFFF41L, 1, true, "A");
        one(0xFFFFFFFFFFFFFF41L, 2, false, "");
        one(-1L, 8, false, "");
        one(0L, 1, false, "");
    }

    private static void room() {
        Clerk clerk = new Clerk();
        clerk.put("x".repeat(193));
        DUE.same("201 characters", clerk.desk.type(Clerk.word("abcdefgh"), 8), false);
        DUE.same("200 characters", clerk.desk.type(Clerk.word("abcdefg"), 7), true);
        DUE.same("one more", clerk.desk.type('a', 1), false);
        DUE.same("the tape", tapeAfter(clerk.desk), "x".repeat(193) + "abcdefg");
        DUE.same("room again", clerk.desk.type('a', 1), true);
        DUE.same("the tape again", tapeAfter(clerk.desk), "a");
    }

    private static void false_changes_nothing() {
        FormatDesk desk = new FormatDesk();
        desk.type(Clerk.word("ab"), 2);
        desk.type(0x4100L, 2);
        desk.type(0x417FL, 2);
        desk.type(0x1F41L, 2);
        desk.type(0x41L, 9);
        desk.type(Clerk.word("cd"), 2);
        DUE.same("false changes nothing", tapeAfter(desk), "abcd");
    }

    public static void main(String[] args) {
        counts();
        bytes();
        room();
        false_changes_nothing();
        DUE.end();
    }
}
