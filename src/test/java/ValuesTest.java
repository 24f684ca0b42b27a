/** Promises 3, 4 and 5: text, decimal, clear. */
public final class ValuesTest {
    private static final Due DUE = new Due();
    private static final String NO_DECIMAL = "throws.IllegalArgumentException";
    private static final String FULL = "throws.IllegalStateException";

    private static void texts() {
        Clerk clerk = new Clerk();
        DUE.same("an empty text", clerk.text(), "1");
        DUE.same("a text", clerk.put("a%d\"").text(), "2");
        DUE.same("they stand there", clerk.filled("[%s][%s]"), "[][a%d\"]");
        DUE.same("60 characters", clerk.put("y".repeat(60)).text(), "3");
        DUE.same("61 characters", clerk.put("z".repeat(61)).text(), "-1");
        DUE.same("the tape stays", clerk.filled("%.0s%.0s%s"), "z".repeat(61) + "y".repeat(60));
        DUE.same("the tape is empty then", clerk.filled("%s%s%.2s"), "a%d\"yy");
    }

    private static void rowOfTwelve() {
        Clerk clerk = new Clerk();
        for (int i = 1; i <= 12; i++) {
            DUE.same("value " + i, i % 2 == 0 ? clerk.put("t").text() : clerk.put("7").decimal(), String.valueOf(i));
        }
        DUE.same("a 13th text", clerk.put("8").text(), "-1");
        DUE.same("a 13th decimal", clerk.decimal(), FULL);
        DUE.same("the tape went", clerk.decimal(), NO_DECIMAL);
        DUE.same("no decimal with 12", clerk.put("8x").decimal(), NO_DECIMAL);
        DUE.same("the tape went again", clerk.put("5").decimal(), FULL);
        DUE.same("all stay", clerk.filled("%s%s%s%s%s%s%s%s%s%s%s%s"), "7t7t7t7t7t7t");
        DUE.same("clear()", clerk.desk.clear(), 12);
        DUE.same("clear() again", clerk.desk.clear(), 0);
        DUE.same("none is left", clerk.filled("%s"), "2@0");
        DUE.same("the first again", clerk.put("1").decimal(), "1");
    }

    private static void decimal(String tape, String plain) {
        Clerk clerk = new Clerk();
        DUE.same("decimal " + tape, clerk.put(tape).decimal(), "1");
        DUE.same("plain of " + tape, clerk.filled("%s"), plain);
    }

    private static void noDecimal(String tape) {
        Clerk clerk = Clerk.with("4");
        DUE.same("no decimal: " + tape, clerk.put(tape).decimal(), NO_DECIMAL);
        DUE.same("no value more: " + tape, clerk.filled("%s"), "4");
    }

    private static void decimals() {
        decimal("0", "0");
        decimal("-0", "0");
        decimal("-000.000", "0");
        decimal("000", "0");
        decimal("007", "7");
        decimal("-007.500", "-7.5");
        decimal("100", "100");
        decimal("0.0010", "0.001");
        decimal("-0.5", "-0.5");
        decimal("000.100", "0.1");
        decimal("10.0", "10");
        decimal("999999999999999999", "999999999999999999");
        decimal("-123456789012345678.123456789012", "-123456789012345678.123456789012");
        decimal("000000000000000001.000000000001", "1.000000000001");
        decimal("000000000000000000.000000000000", "0");
    }

    private static void noDecimals() {
        String[] tapes = {"", "-", ".", "-.", "1.", ".5", "-.5", "+1", "--1", "1-", " 1", "1 ", "1e5", "1.2.3",
            "1..2", "0x1", "1,5", "-1.", "a", "1234567890123456789", "0000000000000000000", "1.1234567890123",
            "1.0000000000000", "-1234567890123456789.5", "1.5-", "1/", "1:", "1./", "1.:"};
        for (String tape : tapes) {
            noDecimal(tape);
        }
    }

    private static void clearing() {
        Clerk clerk = Clerk.with("1", "'b");
        clerk.filled("%s%s");
        clerk.put("42");
        DUE.same("clear() of two", clerk.desk.clear(), 2);
        DUE.same("the tape stays", clerk.decimal(), "1");
        DUE.same("what was filled stays", clerk.filled(), "1b");
        DUE.same("only the new one", clerk.filled("%d"), "42");
    }

    /** A slot that was a decimal must be a whole text then, and the other way round. */
    private static void usedAgain() {
        Clerk clerk = Clerk.with("-12.5", "'twelve");
        clerk.desk.clear();
        clerk.put("A").text();
        clerk.put("3").decimal();
        DUE.same("no third one", clerk.filled("%s%s|%s"), "2@5");
        DUE.same("slots used again", clerk.filled("%q|%+.1f"), "\"A\"|+3.0");
        DUE.same("no decimal there now", clerk.filled("%d%d"), "3@0");
        DUE.same("a refused decimal", clerk.put("9x").decimal(), NO_DECIMAL);
        DUE.same("a text behind it", clerk.put("9x").text(), "3");
        DUE.same("all three", clerk.filled("%s %s %s"), "A 3 9x");
    }

    public static void main(String[] args) {
        texts();
        rowOfTwelve();
        decimals();
        noDecimals();
        clearing();
        usedAgain();
        DUE.end();
    }
}
