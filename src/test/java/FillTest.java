/** Promise 6: what comes of each FIELD. */
public final class FillTest {
    private static final Due DUE = new Due();

    private static void gives(String want, String pattern, String... values) {
        String what = pattern + " of " + String.join(", ", values);
        DUE.same(what, Clerk.with(values).filled(pattern), want);
    }

    private static void marks() {
        gives("", "");
        gives("plain \\ text \" {}~", "plain \\ text \" {}~");
        gives("%", "%%");
        gives("%%d", "%%%%d");
        gives("5%", "%d%%", "5");
        gives("a%7b", "a%%%db", "7");
    }

    private static void wholes() {
        gives("42", "%d", "42");
        gives("-42", "%d", "-42.99");
        gives("0", "%d", "-0.99");
        gives("+0", "%+d", "-0.99");
        gives("999999999999999999", "%d", "999999999999999999.999999999999");
        gives("0042", "%.4d", "42");
        gives("-0042", "%.4d", "-42");
        gives("42", "%.1d", "42");
        gives("0", "%.0d", "0");
        gives("0", "%.d", "0");
        gives("0".repeat(98) + "7", "%.99d", "7");
        gives("42", "%#d", "42");
        gives("ff", "%x", "255");
        gives("DE0B6B3A763FFFF", "%X", "999999999999999999");
        gives("-de0b6b3a763ffff", "%x", "-999999999999999999");
        gives("0xff", "%#x", "255");
        gives("0X00FF", "%#.4X", "255");
        gives("-0x00ff", "%#.4x", "-255");
        gives("0x0", "%#x", "0");
        gives("377", "%o", "255");
        gives("0o377", "%#o", "255");
        gives("0o0", "%#o", "0.7");
        gives("11111111", "%b", "255");
        gives("0b101", "%#b", "5");
        gives("110111100000101101101011001110100111011000111111111111111111", "%b", "999999999999999999");
        gives("0", "%x", "0");
        gives("abcdef 123 ABCDEF", "%x %x %X", "11259375", "291", "11259375");
    }

    private static void places() {
        gives("3.141590", "%f", "3.14159");
        gives("3.", "%#.0f", "3.14159");
        gives("3", "%.f", "3.14159");
        gives("0", "%.0f", "0.5");
        gives("2", "%.0f", "1.5");
        gives("2", "%.0f", "2.5");
        gives("3", "%.0f", "2.500000000001");
        gives("2", "%.0f", "2.499999999999");
        gives("0.12", "%.2f", "0.125");
        gives("0.14", "%.2f", "0.135");
        gives("-0.12", "%.2f", "-0.125");
        gives("10.00", "%.2f", "9.995");
        gives("9.98", "%.2f", "9.985");
        gives("1000000000000000000", "%.0f", "999999999999999999.5");
        gives("1000000000000000000.0", "%.1f", "999999999999999999.95");
        gives("999999999999999998", "%.0f", "999999999999999998.5");
        gives("-0.00", "%.2f", "-0.004");
        gives("-0", "%.0f", "-0.5");
        gives("0.00", "%.2f", "-0");
        gives("0.123456789012", "%.12f", "0.123456789012");
        gives("0.12345678901", "%.11f", "0.123456789011");
        gives("1.5" + "0".repeat(98), "%.99f", "1.5");
        gives("0.000000", "%f", "0");
        gives("+1.000000", "%+f", "1");
    }

    private static void exponents() {
        gives("3.141590e+00", "%e", "3.14159");
        gives("0.000000e+00", "%e", "0");
        gives("0e+00", "%.0e", "0");
        gives("0.e+00", "%#.0e", "-0.000");
        gives("1.E+01", "%#.0E", "9.5");
        gives("8e+00", "%.0e", "8.5");
        gives("1e+01", "%.0e", "9.5");
        gives("9e+00", "%.0e", "9.4");
        gives("1.00e+01", "%.2e", "9.995");
        gives("9.98e+00", "%.2e", "9.985");
        gives("1e-12", "%.0e", "0.000000000001");
        gives("-1.50E-11", "%.2E", "-0.000000000015");
        gives("2e-11", "%.0e", "0.000000000015");
        gives("2e-11", "%.0e", "0.000000000025");
        gives("9e-12", "%.0e", "0.000000000009");
        gives("1.000e+18", "%.3e", "999999999999999999.9");
        gives("9.99999999999999999e+17", "%.17e", "999999999999999999");
        gives("1.23456789012345678123456789012e+17", "%.29e", "123456789012345678.123456789012");
        gives("1.2345678901234567812345678901e+17", "%.28e", "123456789012345678.123456789012");
        gives("1." + "0".repeat(99) + "e+00", "%.99e", "1");
        gives("1.234568e+05", "%e", "123456.78");
    }

    private static void shorter() {
        gives("0", "%g", "0");
        gives("0", "%.0g", "-0");
        gives("0.00000", "%#g", "0");
        gives("0.", "%#.1g", "0");
        gives("100000", "%g", "100000");
        gives("1e+06", "%g", "1000000");
        gives("1e+06", "%g", "999999.5");
        gives("999999", "%g", "999999.4");
        gives("999998", "%g", "999998.5");
        gives("0.0001", "%g", "0.0001");
        gives("1e-05", "%g", "0.00001");
        gives("0.0001", "%.2g", "0.000099999");
        gives("9.9999e-05", "%g", "0.000099999");
        gives("1.00000e-05", "%#g", "0.00001");
        gives("1E-05", "%G", "0.00001");
        gives("1.E+01", "%#.1G", "9.9");
        gives("5.", "%#.1g", "5");
        gives("5", "%.1g", "5");
        gives("1e+01", "%.0g", "9.5");
        gives("8", "%.0g", "8.5");
        gives("10", "%.3g", "9.995");
        gives("10.0", "%#.3g", "9.995");
        gives("1.2e+02", "%.2g", "125");
        gives("1.4e+02", "%.2g", "135");
        gives("100.5", "%g", "100.5");
        gives("1200", "%g", "1200");
        gives("-1.25e+17", "%g", "-125000000000000000");
        gives("123456789012345678.123456789012", "%.99g", "123456789012345678.123456789012");
        gives("0.0001" + "0".repeat(98), "%#.99g", "0.0001");
        gives("123456789012345678." + "0".repeat(81), "%#.99g", "123456789012345678");
        gives("1e+18", "%g", "999999999999999999");
        gives("0.5 +0.5  0.5", "%g %+g % g", "0.5", "0.5", "0.5");
    }

    private static void words() {
        gives("abc", "%s", "'abc");
        gives("ab", "%.2s", "'abc");
        gives("", "%.s", "'abc");
        gives("abc", "%.99s", "'abc");
        gives("-12.5", "%s", "-012.50");
        gives("-12.", "%.4s", "-012.50");
        gives("-", "%.1s", "-0.5");
        gives("\"\"", "%q", "'");
        gives("\"a\\\"b\\\\c\"", "%q", "'a\"b\\c");
        gives("\"a\\\"\"", "%.2q", "'a\"b\\c");
        gives("\"-0.5\"", "%q", "-0.50");
        gives("\"\"", "%.0q", "'abc");
        gives("\"" + "\\\"".repeat(60) + "\"", "%q", "'" + "\"".repeat(60));
        gives("A", "%c", "65.99");
        gives("A", "%c", "'A");
        gives(" ~", "%c%c", "32", "126.9");
        gives("A", "%#.0c", "65");
        gives("5", "%c", "'5");
        gives("abc\"abc\"", "%#s%#q", "'abc", "'abc");
        gives("abc|\"abc\"|a", "%+s|% q|%+c", "'abc", "'abc", "'a");
        gives("5|\"5\"", "%+s|%+q", "5", "5");
    }

    private static void signs() {
        gives("+5", "%+d", "5");
        gives(" 5", "% d", "5");
        gives("+5", "% +d", "5");
        gives("-5", "%+ d", "-5");
        gives("+0", "%+d", "-0");
        gives("+0x5 0b101", "%+#x% #b", "5", "5");
        gives("+5 +5 +101 +5", "%+X %+o %+b %+G", "5", "5", "5", "5");
        gives("-0.0", "%+.1f", "-0.01");
        gives("+0.0", "%+.1f", "0.01");
        gives("+1e+00", "%+.0e", "1");
    }

    private static void widths() {
        gives("   42", "%5d", "42");
        gives("42   |", "%-5d|", "42");
        gives("00042", "%05d", "42");
        gives("-0042", "%05d", "-42");
        gives("+0042", "%+05d", "42");
        gives(" 0042", "% 05d", "42");
        gives("42   |", "%-05d|", "42");
        gives("42   |", "%0-5d|", "42");
        gives("0x0002a", "%#07x", "42");
        gives("-0X002A", "%0#7X", "-42");
        gives("   0x2a", "%#7x", "42");
        gives("0x2a   |", "%-#7x|", "42");
        gives("  0042", "%6.4d", "42");
        gives("000042", "%06.4d", "42");
        gives("42", "%2d", "42");
        gives("42", "%1d", "42");
        gives("0001.50", "%07.2f", "1.5");
        gives("-01.5e+00", "%09.1e", "-1.5");
        gives("00000.5", "%07g", "0.5");
        gives("  abc", "%5s", "'abc");
        gives("  abc", "%05s", "'abc");
        gives("abc  |", "%-5s|", "'abc");
        gives("   ab", "%5.2s", "'abc");
        gives("  \"a\"", "%05q", "'a");
        gives("    a", "%05c", "'a");
        gives("a    |", "%-05c|", "'a");
        gives(" ".repeat(98) + "7", "%99d", "7");
        gives("0".repeat(98) + "7", "%099d", "7");
        gives("00042", "%0000005d", "42");
        gives("+42  |", "%-+-+5d|", "42");
        gives("0x2a", "%###x", "42");
    }

    private static void stars() {
        gives("   42", "%*d", "5", "42");
        gives("42   |", "%*d|", "-5", "42");
        gives("42   |", "%0*d|", "-5.9", "42");
        gives("42", "%*d", "0", "42");
        gives("42", "%*d", "-0.9", "42");
        gives(" ".repeat(97) + "42", "%*d", "99.999", "42");
        gives("42" + " ".repeat(97), "%*d", "-99.999", "42");
        gives("3.14", "%.*f", "2.9", "3.14159");
        gives("3", "%.*f", "0", "3.14159");
        gives("3", "%.*f", "-0.9", "3.14159");
        gives("3.141590", "%.*f", "-1", "3.14159");
        gives("42", "%.*d", "-99", "42");
        gives("abc", "%.*s", "-1", "'abc");
        gives("a", "%.*s", "1", "'abc");
        gives("    3.1", "%*.*f", "7", "1", "3.14159");
        gives("3.1    |5", "%*.*f|%d", "-7", "1", "3.14159", "5");
        gives("    a", "%*.*c", "5", "9", "'a");
        gives("100", "%.*g", "-5", "100");
        gives("1e+02", "%.*g", "0", "100");
        // What a * brought must not stay for the next FIELD.
        gives("1    |    2|3", "%*d|%5d|%d", "-5", "1", "2", "3");
        gives("1.0|2.000000|+3|4|0x5|6|    7|8", "%.*f|%f|%+d|%d|%#x|%x|%5d|%d",
            "1", "1", "2", "3", "4", "5", "6", "7", "8");
    }

    /** The VALUES stay, the tape goes, and what was filled stays behind a fault. */
    private static void state() {
        Clerk clerk = Clerk.with("1", "'x");
        DUE.same("first", clerk.filled("%d-%s"), "1-x");
        DUE.same("again with the same values", clerk.filled("<%s%s>"), "<1x>");
        DUE.same("a fault", clerk.filled("%d%d"), "3@2");
        DUE.same("what was filled stays", clerk.filled(), "<1x>");
        DUE.same("the tape went: the empty pattern", clerk.filled(""), "4@0");
        DUE.same("and stays again", clerk.filled(), "<1x>");
        DUE.same("values stay", clerk.filled("%s%s"), "1x");
        Clerk never = new Clerk();
        DUE.same("a fault at first", never.put("ab%").fill(), "throws.IllegalArgumentException");
        DUE.same("nothing was filled", never.desk.letters(), -1);
        DUE.same("the tape went", never.filled("c"), "c");
    }

    public static void main(String[] args) {
        marks();
        wholes();
        places();
        exponents();
        shorter();
        words();
        signs();
        widths();
        stars();
        state();
        DUE.end();
    }
}
