/** "Terms", a DECIMAL and a VALUE: each sentence that names a boundary, with a test of its own. */
public final class DecimalBoundsTest {
    private static final Due DUE = new Due();
    private static final String NONE_SUCH = "throws.IllegalArgumentException";
    private static final String NINES = "999999999999999999";

    private static void is(String tape, String plain) {
        Clerk clerk = new Clerk();
        DUE.same("decimal() of " + tape, clerk.put(tape).decimal(), "1");
        DUE.same("PLAIN text of " + tape, clerk.filled("%s"), plain);
    }

    private static void isNone(String... tapes) {
        for (String tape : tapes) {
            Clerk clerk = Clerk.with("4");
            DUE.same("decimal() of " + tape, clerk.put(tape).decimal(), NONE_SUCH);
            DUE.same("the VALUES behind " + tape, clerk.filled("%s"), "4");
        }
    }

    private static void perhapsMinus() {
        DUE.sentence("A DECIMAL: perhaps -");
        is("-1", "-1");
        is("1", "1");
        is("-" + NINES + ".999999999999", "-" + NINES + ".999999999999");
        isNone("--1", "+1", "-+1", " -1", "- 1", "1-", "-", "", "-a", "~1", "-1-", "-1.5-", "-.5", "-.", "1.-5");
    }

    private static void digitsAhead() {
        DUE.sentence("then 1 to 18 digits");
        for (int many = 1; many <= 18; many++) {
            is("7".repeat(many), "7".repeat(many));
            is("-" + "9".repeat(many), "-" + "9".repeat(many));
            is("0".repeat(many), "0");
            is("0".repeat(many) + ".5", "0.5");
        }
        isNone("", "-", ".5", "-.5", ".", "a", "-a", " ", "x1", "1x");
        isNone("1" + NINES, "-1" + NINES, "0" + NINES, "0".repeat(19), "0".repeat(19) + ".5", "0".repeat(18) + "1");
        isNone("1".repeat(20), "9223372036854775807", "9223372036854775808", "18446744073709551617", "1".repeat(200));
        isNone("/", ":", "1/", "1:", "/1", ":1", "1 2", "1,2", "1_000", "1e5", "1E5", "0x1", "1f", "1d", "1L");
    }

    private static void digitsBehind() {
        DUE.sentence("then perhaps . and 1 to 12 digits");
        for (int many = 1; many <= 12; many++) {
            is("1." + "7".repeat(many), "1." + "7".repeat(many));
            is("-1." + "0".repeat(many), "-1");
        }
        is(NINES + ".999999999999", NINES + ".999999999999");
        isNone("1.", "-1.", "1..5", "1.5.", "1.5.5", "1. 5", "1 .5", "1,5", "1.-5", "1.+5", "1.a", "1.5a", "1./", "1.:");
        isNone("1.7777777777777", "1.0000000000000", "0.5000000000000", "-0.0000000000001", "1." + "1".repeat(198));
    }

    private static void valueJustThat() {
        DUE.sentence("Its value is just that");
        String longest = "123456789012345678.123456789012";
        DUE.fills(longest, "%s", longest);
        DUE.fills(longest, "%.12f", longest);
        DUE.fills("1.23456789012345678123456789012e+17", "%.29e", longest);
        DUE.fills("-" + longest, "%.30g", "-" + longest);
        DUE.fills("123456789012345678", "%d", longest);
        Clerk clerk = Clerk.with(longest, "123456789012345678.123456789013", "123456789012345679.123456789012",
            "223456789012345678.123456789012", "123456789012345678.223456789012", longest);
        for (int other = 1; other <= 4; other++) {
            DUE.same("alike(0, " + other + ")", clerk.desk.alike(0, other), false);
        }
        DUE.same("alike(0, 5)", clerk.desk.alike(0, 5), true);
    }

    private static void minusZero() {
        DUE.sentence("-0 is 0");
        for (String zero : new String[] {"-0", "-0.0", "-00", "-" + "0".repeat(18), "-0.000000000000"}) {
            is(zero, "0");
            DUE.fills("0 +0", "%d %+d", zero, zero);
            DUE.fills("0.0 +0.0  0.0", "%.1f %+.1f % .1f", zero, zero, zero);
            DUE.fills("0e+00 +0e+00", "%.0e %+.0e", zero, zero);
            DUE.fills("0 +0", "%g %+G", zero, zero);
            DUE.fills("0 \"0\"", "%s %q", zero, zero);
            DUE.same(zero + " and 0", Clerk.with(zero, "0").desk.alike(0, 1), true);
        }
        DUE.fills("-0.000000000001 -0", "%s %.0f", "-0.000000000001", "-0.000000000001");
        DUE.same("the one nearest to 0", Clerk.with("-0.000000000001", "0").desk.alike(0, 1), false);
    }

    private static void plainSign() {
        DUE.sentence("Its PLAIN text: - if it is below 0");
        is("-1", "-1");
        is("-0.000000000001", "-0.000000000001");
        is("-00.10", "-0.1");
        is("-0.000000000000", "0");
        is("0.000000000001", "0.000000000001");
    }

    private static void plainAhead() {
        DUE.sentence("the digits ahead of the point without zeros at their beginning (0 if none is left)");
        is("000000000000000001", "1");
        is("-0010", "-10");
        is("0100.5", "100.5");
        is("100000000000000000", "100000000000000000");
        is("0", "0");
        is("000000000000000000", "0");
        is("00.5", "0.5");
        is("-000.5", "-0.5");
        is("10203", "10203");
    }

    private static void plainBehind() {
        DUE.sentence("if there are others than zeros behind it, the point and these without zeros at their end");
        is("1.0", "1");
        is("1.000000000000", "1");
        is("10.0", "10");
        is("100.00", "100");
        is("0.0", "0");
        is("1.500", "1.5");
        is("1.050", "1.05");
        is("1.00000000001", "1.00000000001");
        is("1.000000000010", "1.00000000001");
        is("1.100000000000", "1.1");
        is("0.000000000001", "0.000000000001");
    }

    private static void wholePart() {
        DUE.sentence("Its WHOLE part is what it is without what is behind the point");
        DUE.fills("0 0", "%d %d", "0.999999999999", "-0.999999999999");
        DUE.fills("1 -1", "%d %d", "1.999999999999", "-1.999999999999");
        DUE.fills(NINES, "%d", NINES + ".999999999999");
        DUE.fills("-" + NINES, "%d", "-" + NINES + ".999999999999");
        DUE.fills("f -f", "%x %x", "15.9", "-15.9");
        DUE.fills("7 111", "%o %b", "7.5", "7.5");
    }

    private static void textLength() {
        DUE.sentence("a TEXT (0 to 60 characters, 32 .. 126)");
        for (int many = 0; many <= 60; many++) {
            Clerk clerk = new Clerk();
            DUE.same("a TEXT of " + many, clerk.put("t".repeat(many)).text(), "1");
            DUE.same("the TEXT of " + many, clerk.filled("%s"), "t".repeat(many));
        }
        DUE.same("a TEXT of 61", new Clerk().put("t".repeat(61)).text(), "-1");
        DUE.same("a TEXT of 200", new Clerk().put("t".repeat(200)).text(), "-1");
        StringBuilder first = new StringBuilder();
        StringBuilder second = new StringBuilder();
        for (char mark = 32; mark <= 126; mark++) {
            (first.length() < 60 ? first : second).append(mark);
        }
        DUE.fills(first.toString() + second, "%s%s", "'" + first, "'" + second);
    }

    private static void rowOfTwelve() {
        DUE.sentence("There is a row of VALUES (at most 12)");
        Clerk texts = new Clerk();
        Clerk decimals = new Clerk();
        for (int i = 1; i <= 12; i++) {
            DUE.same("TEXT " + i, texts.put("t" + i).text(), String.valueOf(i));
            DUE.same("DECIMAL " + i, decimals.put("1" + i).decimal(), String.valueOf(i));
        }
        DUE.same("TEXT 13", texts.put("t13").text(), "-1");
        DUE.same("DECIMAL 13", decimals.put("113").decimal(), "throws.IllegalStateException");
        DUE.same("clear() of TEXTS", texts.desk.clear(), 12);
        DUE.same("all DECIMALS", decimals.filled("%s,".repeat(12)), "11,12,13,14,15,16,17,18,19,110,111,112,");
        DUE.same("clear() of DECIMALS", decimals.desk.clear(), 12);
    }

    public static void main(String[] args) {
        perhapsMinus();
        digitsAhead();
        digitsBehind();
        valueJustThat();
        minusZero();
        plainSign();
        plainAhead();
        plainBehind();
        wholePart();
        textLength();
        rowOfTwelve();
        DUE.end();
    }
}
