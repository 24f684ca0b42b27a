import java.util.function.Consumer;

/** "What it is" and promises 1 to 10: each sentence that names a boundary, or what a refused call leaves. */
public final class CallBoundsTest {
    private static final Due DUE = new Due();
    private static final int[] FAR = {Integer.MIN_VALUE, Integer.MIN_VALUE + 1, -65536, -256, -2, -1};
    private static final String NO_ARGUMENT = "throws.IllegalArgumentException";
    private static final String NO_STATE = "throws.IllegalStateException";
    private static final String NO_ELEMENT = "throws.NoSuchElementException";

    /** VALUES, something filled and the latest FAULT, so that a change of any of them shows. */
    private static Clerk busy() {
        Clerk clerk = Clerk.with("-1.50", "'te\"xt");
        clerk.filled("<%s|%s>");
        clerk.filled("ab%d");
        return clerk;
    }

    private static Clerk full() {
        Clerk clerk = busy();
        for (int i = 3; i <= 12; i++) {
            clerk.put("v" + i).text();
        }
        return clerk;
    }

    private static void changesNothing(String what, Clerk seen, Clerk left, Consumer<Clerk> refused) {
        refused.accept(seen);
        DUE.same(what + " changes nothing", seen.state(), left.state());
    }

    private static void newObject() {
        DUE.sentence("No VALUES; no PATTERN was filled.");
        DUE.same("clear()", new FormatDesk().clear(), 0);
        DUE.same("letters()", new FormatDesk().letters(), FormatDesk.NONE);
        DUE.same("letter(0)", new Clerk().letter(0), NO_ELEMENT);
        DUE.same("alike(0, 0)", new FormatDesk().alike(0, 0), false);
        DUE.same("fault", new Clerk().fault(), "0@0");
        DUE.same("no VALUE for %s", new Clerk().filled("%s"), "2@0");
        DUE.same("the first VALUE", new Clerk().put("a").text(), "1");
        busy();
        DUE.same("beside another object", new FormatDesk().letters(), FormatDesk.NONE);
        DUE.same("VALUES beside another object", new FormatDesk().clear(), 0);
        DUE.same("NONE", FormatDesk.NONE, -1);
    }

    private static void typeTakesTheLowest() {
        DUE.sentence("The n (1 .. 8) lowest bytes of word, the highest first, go to the tape: true");
        for (int n = 1; n <= 8; n++) {
            Clerk clerk = new Clerk();
            DUE.same("n " + n, clerk.desk.type(Clerk.word("ABCDEFGH"), n), true);
            DUE.same("the tape of " + n, clerk.filled(""), "ABCDEFGH".substring(8 - n));
        }
        for (int n = 1; n <= 7; n++) {
            long above = -1L << 8 * n;
            DUE.same("other bytes do not count " + n, new FormatDesk().type(above | Clerk.word("~".repeat(n)), n), true);
            DUE.same("they are 0 " + n, new FormatDesk().type(Clerk.word(" ".repeat(n)), n), true);
        }
        Clerk clerk = new Clerk();
        clerk.desk.type(Clerk.word("ab"), 2);
        clerk.desk.type(Clerk.word("c"), 1);
        DUE.same("behind what is there", clerk.filled("defghijk"), "abcdefghijk");
    }

    private static void typeOfAnotherN() {
        DUE.sentence("false, changing nothing, for another n");
        for (int n : new int[] {Integer.MIN_VALUE, -8, -1, 0, 9, 10, 16, 64, 256, 257, 65537, Integer.MAX_VALUE}) {
            DUE.same("n " + n, new FormatDesk().type(Clerk.word("abcdefgh"), n), false);
            changesNothing("n " + n, busy().put("t"), busy().put("t"), c -> c.desk.type(Clerk.word("abcdefgh"), n));
        }
    }

    private static void typeOfAnotherByte() {
        DUE.sentence("a byte that is not 32 .. 126");
        for (int mark = 0; mark < 256; mark++) {
            boolean goes = mark >= 32 && mark <= 126;
            for (int at = 0; at < 8; at++) {
                long word = Clerk.word("aaaaaaaa") & ~(255L << 8 * at) | (long) mark << 8 * at;
                DUE.same("byte " + mark + " at " + at, new FormatDesk().type(word, 8), goes);
                DUE.same("byte " + mark + " last of " + at, new FormatDesk().type(word, at + 1), goes);
            }
        }
        for (int mark : new int[] {0, 1, 10, 31, 127, 128, 255}) {
            for (int at = 0; at < 3; at++) {
                long word = Clerk.word("abc") & ~(255L << 8 * at) | (long) mark << 8 * at;
                changesNothing("byte " + mark + " at " + at, busy().put("t"), busy().put("t"), c -> c.desk.type(word, 3));
            }
        }
    }

    private static void typeOfTooMany() {
        DUE.sentence("or if it would have more than 200");
        for (int n = 1; n <= 8; n++) {
            Clerk fits = new Clerk().put("x".repeat(200 - n));
            DUE.same("200 with " + n, fits.desk.type(Clerk.word("abcdefgh"), n), true);
            DUE.same("the tape of 200", fits.fill(), "200");
            DUE.same("its last", fits.letter(199), "h");
            Clerk tooMany = new Clerk().put("x".repeat(201 - n));
            DUE.same("201 with " + n, tooMany.desk.type(Clerk.word("abcdefgh"), n), false);
            DUE.same("the tape stays", tooMany.fill(), String.valueOf(201 - n));
        }
        changesNothing("201", busy().put("x".repeat(200)), busy().put("x".repeat(200)), c -> c.desk.type('y', 1));
        Clerk clerk = new Clerk().put("x".repeat(200));
        clerk.fill();
        DUE.same("room behind fill()", clerk.put("y".repeat(200)).fill(), "200");
        clerk.put("z".repeat(200)).decimal();
        DUE.same("room behind decimal()", clerk.put("y".repeat(200)).fill(), "200");
    }

    private static void textIsAValueMore() {
        DUE.sentence("The tape (which is empty then) is a VALUE more, a TEXT: how many there are.");
        Clerk clerk = new Clerk();
        DUE.same("an empty one", clerk.text(), "1");
        DUE.same("the second", clerk.put("ab").text(), "2");
        DUE.same("the tape was empty", clerk.text(), "3");
        DUE.same("one of 60", clerk.put("t".repeat(60)).text(), "4");
        DUE.same("a number", clerk.put("5").text(), "5");
        DUE.same("they stand there", clerk.filled("%q%q%q%q%q"), "\"\"\"ab\"\"\"\"" + "t".repeat(60) + "\"\"5\"");
        DUE.same("a TEXT", clerk.filled("%s%s%s%s%d"), "3@8");
    }

    private static void textRefused() {
        DUE.sentence("NONE, changing nothing, if it has more than 60 characters, or there are 12.");
        for (int many : new int[] {61, 62, 68, 100, 200}) {
            DUE.same("of " + many, new Clerk().put("t".repeat(many)).text(), "-1");
            changesNothing("of " + many, busy().put("t".repeat(many)), busy().put("t".repeat(many)), Clerk::text);
        }
        DUE.same("with 11", Clerk.with("1", "1", "1", "1", "1", "1", "1", "1", "1", "1", "1").put("t").text(), "12");
        DUE.same("with 12", full().put("t").text(), "-1");
        DUE.same("an empty one with 12", full().text(), "-1");
        changesNothing("with 12", full().put("t"), full().put("t"), Clerk::text);
        changesNothing("of 61 with 12", full().put("t".repeat(61)), full().put("t".repeat(61)), Clerk::text);
        Clerk clerk = new Clerk().put("5".repeat(61));
        clerk.text();
        DUE.same("the tape of 61 stays", clerk.fill(), "61");
    }

    private static void decimalIsAValueMore() {
        DUE.sentence("The tape (which is empty then in any case) is a VALUE more, a DECIMAL: how many there are.");
        Clerk clerk = new Clerk();
        DUE.same("the first", clerk.put("5").decimal(), "1");
        DUE.same("the tape was empty", clerk.decimal(), NO_ARGUMENT);
        DUE.same("the second", clerk.put("-6.5").decimal(), "2");
        DUE.same("none", clerk.put("5x").decimal(), NO_ARGUMENT);
        DUE.same("the tape was empty again", clerk.text(), "3");
        DUE.same("they stand there", clerk.filled("%d %.1f [%s]"), "5 -6.5 []");
        Clerk twelve = full().put("7");
        DUE.same("with 12", twelve.decimal(), NO_STATE);
        DUE.same("the tape was empty with 12", twelve.filled(""), "4@0");
    }

    private static void decimalRefused() {
        DUE.sentence("IllegalArgumentException: it is none; IllegalStateException: there are 12.");
        for (String none : new String[] {"", "-", "1.", ".5", "x", "+1", "1234567890123456789", "1.1234567890123"}) {
            DUE.same("of " + none, busy().put(none).decimal(), NO_ARGUMENT);
            DUE.same("of " + none + " with 12", full().put(none).decimal(), NO_ARGUMENT);
            changesNothing("but for the tape, " + none, busy().put(none), busy(), Clerk::decimal);
            changesNothing("with 12, but for the tape, " + none, full().put(none), full(), Clerk::decimal);
        }
        DUE.same("with 11", Clerk.with("'", "'", "'", "'", "'", "'", "'", "'", "'", "'", "'").put("5").decimal(), "12");
        DUE.same("with 12", full().put("5").decimal(), NO_STATE);
        changesNothing("with 12, but for the tape", full().put("5"), full(), Clerk::decimal);
        Clerk clerk = full().put("5");
        clerk.decimal();
        clerk.desk.clear();
        DUE.same("behind clear()", clerk.put("5").decimal(), "1");
    }

    private static void clearAnswers() {
        DUE.sentence("All VALUES go: how many there were.");
        for (int many = 0; many <= 12; many++) {
            Clerk clerk = new Clerk();
            for (int i = 0; i < many; i++) {
                clerk.put("1").decimal();
            }
            DUE.same("of " + many, clerk.desk.clear(), many);
            DUE.same("of none", clerk.desk.clear(), 0);
            DUE.same("none is alike", clerk.desk.alike(0, 0), false);
            DUE.same("none is left", clerk.filled("%s"), "2@0");
            DUE.same("none is over", clerk.filled("a"), "a");
        }
        Clerk clerk = busy().put("tape");
        clerk.desk.clear();
        DUE.same("what was filled, and the fault", clerk.filled() + clerk.fault(), "<-1.5|te\"xt>4@4");
        DUE.same("the tape", clerk.filled(""), "tape");
    }

    /** What stood in the row before must not show in what stands there now. */
    private static void clearedRowAgain() {
        DUE.sentence("All VALUES go");
        Clerk clerk = Clerk.with("-12.5", "'a long text", "'x", "-7");
        clerk.desk.clear();
        DUE.same("a TEXT for a DECIMAL", clerk.put("ab").text(), "1");
        DUE.same("a DECIMAL for a TEXT", clerk.put("3").decimal(), "2");
        DUE.same("an empty TEXT for a TEXT", clerk.text(), "3");
        DUE.same("a DECIMAL for a DECIMAL", clerk.put("0").decimal(), "4");
        DUE.same("as words", clerk.filled("[%s] [%s] [%s] [%s]"), "[ab] [3] [] [0]");
        DUE.same("as numbers", clerk.filled("%s %+.1f%s %+d"), "ab +3.0 +0");
        DUE.same("a TEXT is no DECIMAL now", clerk.filled("%d%d%s%d"), "3@0");
        DUE.same("nor of one character", clerk.filled("%s%d%c%d"), "3@4");
    }

    private static void fillAnswers() {
        DUE.sentence("The tape (which is empty then in any case) is a PATTERN, filled with the VALUES (which stay)");
        Clerk clerk = Clerk.with("-1.50", "'te\"xt");
        DUE.same("how many", clerk.put("<%s|%s>").fill(), "12");
        DUE.same("the tape was empty", clerk.fill(), NO_ARGUMENT);
        DUE.same("its fault", clerk.fault(), "4@0");
        DUE.same("the VALUES stay", clerk.filled("%s%q"), "-1.5\"te\\\"xt\"");
        for (String fault : new String[] {"%", "%s%s%s", "%s%d", "%s", "%99s%s" + "x".repeat(194)}) {
            clerk.put(fault).fill();
            DUE.same("the tape was empty behind " + fault, clerk.filled(""), "4@0");
            DUE.same("the VALUES stay behind " + fault, clerk.filled("%s%s"), "-1.5te\"xt");
        }
        DUE.same("nothing", new Clerk().fill(), "0");
    }

    private static void fillRefused() {
        DUE.sentence("IllegalArgumentException: it has a FAULT (what was filled last stays).");
        String[] faults = {"%", "x%y", "%s%s%s", "abc%s%*s", "%d%s%d", "abc%s%d", "%s", "abcdefghijklmnop", "%99s%s%",
            "%-99s%y", "%s%s%s%s"};
        for (String pattern : faults) {
            Clerk clerk = Clerk.with("-1.50", "'te\"xt");
            clerk.filled("<%s|%s>");
            DUE.same("of " + pattern, clerk.put(pattern).fill(), NO_ARGUMENT);
            DUE.same("letters() behind " + pattern, clerk.desk.letters(), 12);
            DUE.same("what was filled behind " + pattern, clerk.filled(), "<-1.5|te\"xt>");
            DUE.same("of " + pattern + " again", clerk.put(pattern).fill(), NO_ARGUMENT);
            DUE.same("what was filled behind two " + pattern, clerk.filled(), "<-1.5|te\"xt>");
            Clerk never = new Clerk();
            never.put("%").fill();
            DUE.same("never filled", never.desk.letters(), -1);
        }
        Clerk longOne = Clerk.with("1", "1", "1", "1", "1", "1", "1");
        DUE.same("short", longOne.filled("%s%s%s%s%s%s%s"), "1111111");
        DUE.same("601", longOne.filled("%99d".repeat(6) + "%7d"), "5@24");
        DUE.same("it stays behind 601", longOne.filled(), "1111111");
    }

    private static void faultAnswers() {
        DUE.sentence("The FAULT of the latest fill(), what 0: its kind (0 none), 1: its place.");
        Clerk clerk = Clerk.with("1");
        DUE.same("before any", clerk.fault(), "0@0");
        String[][] rows = {{"ab%", "1@2"}, {"%s", "0@0"}, {"%s%s", "2@2"}, {"a%*s", "2@1"}, {"%c", "3@0"}, {"%s", "0@0"},
            {"abc", "4@3"}, {"", "4@0"}, {"%y", "1@0"}};
        for (String[] row : rows) {
            clerk.put(row[0]).fill();
            DUE.same("of " + row[0], clerk.fault(), row[1]);
            clerk.put("x").decimal();
            clerk.desk.letters();
            clerk.letter(99);
            clerk.desk.type(0, 1);
            DUE.same("later calls leave that of " + row[0], clerk.fault(), row[1]);
        }
        clerk.desk.clear();
        clerk.text();
        DUE.same("text() and clear() leave it", clerk.fault(), "1@0");
    }

    private static void faultOfAnotherWhat() {
        DUE.sentence("NONE for another what.");
        for (Clerk clerk : new Clerk[] {new Clerk(), busy()}) {
            for (int what : FAR) {
                DUE.same("fault(" + what + ")", clerk.desk.fault(what), -1);
            }
            for (int what : new int[] {2, 3, 5, 256, 257, 65536, Integer.MAX_VALUE}) {
                DUE.same("fault(" + what + ")", clerk.desk.fault(what), -1);
            }
        }
    }

    private static void letterAnswers() {
        DUE.sentence("Character i of what was filled last. NoSuchElementException: there is none such.");
        for (int size : new int[] {0, 1, 2, 59, 200}) {
            Clerk clerk = new Clerk().put("x".repeat(size));
            clerk.fill();
            for (int i : FAR) {
                DUE.same("letter(" + i + ") of " + size, clerk.letter(i), NO_ELEMENT);
            }
            for (int i : new int[] {size, size + 1, 600, 601, 65536, Integer.MAX_VALUE}) {
                DUE.same("letter(" + i + ") of " + size, clerk.letter(i), NO_ELEMENT);
            }
            DUE.same("all of " + size, clerk.filled(), "x".repeat(size));
        }
        Clerk longest = Clerk.with("1", "2", "3", "4", "5", "6");
        longest.put("%99d%99d%99d%99d%99d%99dabcdef").fill();
        DUE.same("letter(599)", longest.letter(599), "f");
        DUE.same("letter(594)", longest.letter(594), "a");
        DUE.same("letter(593)", longest.letter(593), "6");
        DUE.same("letter(600)", longest.letter(600), NO_ELEMENT);
        longest.put("%d%d%d%d%d%d").fill();
        DUE.same("letter(5) of a shorter one", longest.letter(5), "6");
        DUE.same("letter(6) of a shorter one", longest.letter(6), NO_ELEMENT);
        DUE.same("letter(0) of a new object", new Clerk().letter(0), NO_ELEMENT);
        longest.put("~ %d%d%d%d%d%d").fill();
        DUE.same("a ~", longest.desk.letter(0), 126);
        DUE.same("a blank", longest.desk.letter(1), 32);
    }

    private static void lettersAnswers() {
        DUE.sentence("How many characters was filled last; NONE if nothing was.");
        Clerk clerk = new Clerk();
        DUE.same("of a new object", clerk.desk.letters(), -1);
        clerk.put("typed").desk.text();
        DUE.same("behind text()", clerk.desk.letters(), -1);
        clerk.put("%").fill();
        DUE.same("behind a fault", clerk.desk.letters(), -1);
        clerk.desk.clear();
        DUE.same("behind clear()", clerk.desk.letters(), -1);
        clerk.fill();
        DUE.same("of nothing", clerk.desk.letters(), 0);
        clerk.put("%").fill();
        DUE.same("of nothing, behind a fault", clerk.desk.letters(), 0);
        clerk.put("x".repeat(200)).fill();
        DUE.same("of 200", clerk.desk.letters(), 200);
        clerk.put("x").fill();
        DUE.same("of 1", clerk.desk.letters(), 1);
    }

    private static void alikeAnswers() {
        DUE.sentence("Whether VALUES a and b are alike: DECIMALS of one value, TEXTS of the same characters");
        String[] values = {"0", "-0.00", "'0", "'", "'a", "'A", "'a ", "1.5", "01.500000000000", "-1.5", "'1.5", "'1.5"};
        String[] alike = {"AA..........", "AA..........", "..A.........", "...A........", "....A.......", ".....A......",
            "......A.....", ".......AA...", ".......AA...", ".........A..", "..........AA", "..........AA"};
        Clerk clerk = Clerk.with(values);
        for (int a = 0; a < 12; a++) {
            for (int b = 0; b < 12; b++) {
                DUE.same(values[a] + " and " + values[b], clerk.desk.alike(a, b), alike[a].charAt(b) == 'A');
            }
        }
        String sixty = "'" + "t".repeat(59);
        DUE.same("60 alike", Clerk.with(sixty + "x", sixty + "x").desk.alike(0, 1), true);
        DUE.same("the last of 60", Clerk.with(sixty + "x", sixty + "y").desk.alike(0, 1), false);
        DUE.same("59 and 60", Clerk.with(sixty, sixty + "y").desk.alike(0, 1), false);
    }

    private static void alikeOfNoneSuch() {
        DUE.sentence("false if there are none such.");
        Clerk clerk = Clerk.with("1", "1");
        for (int none : FAR) {
            DUE.same("alike(" + none + ", 0)", clerk.desk.alike(none, 0), false);
            DUE.same("alike(0, " + none + ")", clerk.desk.alike(0, none), false);
            DUE.same("alike of two " + none, clerk.desk.alike(none, none), false);
        }
        for (int none : new int[] {2, 3, 11, 12, 13, 256, 65536, Integer.MAX_VALUE}) {
            DUE.same("alike(" + none + ", 0)", clerk.desk.alike(none, 0), false);
            DUE.same("alike(1, " + none + ")", clerk.desk.alike(1, none), false);
            DUE.same("alike of two " + none, clerk.desk.alike(none, none), false);
        }
        Clerk twelve = full();
        DUE.same("alike(11, 11)", twelve.desk.alike(11, 11), true);
        DUE.same("alike(12, 12)", twelve.desk.alike(12, 12), false);
        twelve.desk.clear();
        DUE.same("behind clear()", twelve.desk.alike(0, 0), false);
        Clerk gone = Clerk.with("1", "1", "1");
        gone.desk.clear();
        gone.put("1").decimal();
        gone.put("1").decimal();
        DUE.same("two that are there", gone.desk.alike(0, 1), true);
        DUE.same("one that went", gone.desk.alike(0, 2), false);
        DUE.same("one that went ahead", gone.desk.alike(2, 1), false);
        DUE.same("of a new object", new FormatDesk().alike(0, 0), false);
    }

    /** With the dearest calls there are, and with the same call over and over. */
    private static void fiveHundredAndTwelveCalls() {
        DUE.sentence("An object is used for at most 512 calls after it has been made");
        FormatDesk typed = new FormatDesk();
        for (int i = 0; i < 512; i++) {
            DUE.same("type " + i, typed.type('x', 1), i < 200);
        }
        FormatDesk texts = new FormatDesk();
        for (int i = 0; i < 512; i++) {
            DUE.same("text() " + i, texts.text(), i < 12 ? i + 1 : -1);
        }
        Clerk decimals = new Clerk();
        for (int i = 0; i < 512; i += 2) {
            DUE.same("decimal() " + i, decimals.put("5").decimal(), i < 24 ? String.valueOf(i / 2 + 1) : NO_STATE);
        }
        Clerk fills = new Clerk();
        for (int i = 0; i < 511; i++) {
            DUE.same("fill() " + i, fills.fill(), "0");
        }
        DUE.same("the last call", fills.desk.letters(), 0);
        Clerk faults = new Clerk();
        for (int i = 0; i < 510; i += 2) {
            DUE.same("a fault " + i, faults.put("%y").fill(), NO_ARGUMENT);
        }
        DUE.same("the last fault", faults.fault(), "1@0");
        dearestFills();
    }

    private static void dearestFills() {
        String[] values = new String[6];
        java.util.Arrays.fill(values, "-999999999999999999.999999999999");
        Clerk clerk = Clerk.with(values);
        int calls = 6 * 5;
        for (; calls + 5 <= 510; calls += 5) {
            DUE.same("dear " + calls, clerk.put("%99f%99e%99b%#99.60b%99g%99.79f").fill(), "594");
        }
        DUE.same("the last but one", clerk.letter(593), "0");
        DUE.same("the last", clerk.desk.letters(), 594);
    }

    public static void main(String[] args) {
        newObject();
        typeTakesTheLowest();
        typeOfAnotherN();
        typeOfAnotherByte();
        typeOfTooMany();
        textIsAValueMore();
        textRefused();
        decimalIsAValueMore();
        decimalRefused();
        clearAnswers();
        clearedRowAgain();
        fillAnswers();
        fillRefused();
        faultAnswers();
        faultOfAnotherWhat();
        letterAnswers();
        lettersAnswers();
        alikeAnswers();
        alikeOfNoneSuch();
        fiveHundredAndTwelveCalls();
        DUE.end();
    }
}
