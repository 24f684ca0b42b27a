/** "Terms", what each LETTER, the SIGNS and the WIDTH bring: each sentence that names a boundary. */
public final class LetterBoundsTest {
    private static final Due DUE = new Due();
    private static final String NINES = "999999999999999999";
    private static final String LEAST = "0.000000000001";

    private static String zeros(int many) {
        return "0".repeat(many);
    }

    private static void wholeWithZerosAhead() {
        DUE.sentence("d: the WHOLE part, its digits, with zeros ahead up to the PRECISION");
        DUE.fills("0", "%d", "0");
        DUE.fills("0", "%d", "-0.9");
        DUE.fills("0", "%.0d", "0");
        DUE.fills("0", "%.1d", "0");
        DUE.fills("00", "%.2d", "0");
        DUE.fills("123", "%.0d", "123");
        DUE.fills("123", "%.2d", "123");
        DUE.fills("123", "%.3d", "123");
        DUE.fills("0123", "%.4d", "123");
        DUE.fills("-0123", "%.4d", "-123");
        DUE.fills("-123", "%.3d", "-123");
        DUE.fills(NINES, "%.17d", NINES);
        DUE.fills(NINES, "%.18d", NINES);
        DUE.fills("0" + NINES, "%.19d", NINES);
        DUE.fills("-" + zeros(81) + NINES, "%.99d", "-" + NINES + ".9");
        DUE.fills(zeros(99), "%.99d", "0");
    }

    private static void otherBases() {
        DUE.sentence("x X o b: likewise in the base 16 (letters a .. f, or A .. F), 8, 2");
        DUE.fills("0 0 0 0", "%x %X %o %b", "0", "0", "0", "0");
        DUE.fills("1 1 1 1", "%x %X %o %b", "1", "1", "1", "1");
        DUE.fills("9 a f 10", "%x %x %x %x", "9", "10", "15", "16");
        DUE.fills("9 A F 10", "%X %X %X %X", "9", "10", "15", "16");
        DUE.fills("7 10 77 100", "%o %o %o %o", "7", "8", "63", "64");
        DUE.fills("1 10 11 100", "%b %b %b %b", "1", "2", "3", "4");
        DUE.fills("123456789abcdef 123456789ABCDEF", "%x %X", "81985529216486895", "81985529216486895");
        DUE.fills("de0b6b3a763ffff", "%x", NINES);
        DUE.fills("-DE0B6B3A763FFFF", "%X", "-" + NINES + ".9");
        DUE.fills("67405553164730777777", "%o", NINES);
        DUE.fills("110111100000101101101011001110100111011000111111111111111111", "%b", NINES);
        DUE.fills("-f -17 -1111", "%x %o %b", "-15.5", "-15.5", "-15.5");
        DUE.fills("ff 0ff ff", "%.2x %.3x %.0x", "255", "255", "255");
        DUE.fills(zeros(97) + "11", "%.99b", "3");
        DUE.fills("-" + zeros(98) + "7", "%.99o", "-7");
        DUE.fills("0", "%.0x", "0");
    }

    private static void sharpOfBases() {
        DUE.sentence("with # then 0x, 0X, 0o, 0b ahead of the digits (of those zeros, too)");
        DUE.fills("0xff 0XFF 0o377 0b11111111", "%#x %#X %#o %#b", "255", "255", "255", "255");
        DUE.fills("-0xff -0XFF -0o377 -0b11111111", "%#x %#X %#o %#b", "-255", "-255", "-255", "-255");
        DUE.fills("0x0 0X0 0o0 0b0", "%#x %#X %#o %#b", "0", "0.9", "-0.9", "0");
        DUE.fills("0x00ff 0X00FF 0o00377 0b0000000101", "%#.4x %#.4X %#.5o %#.10b", "255", "255", "255", "5");
        DUE.fills("0x" + zeros(99), "%#.99x", "0");
        DUE.fills("255 -255", "%#d %#d", "255", "-255");
    }

    private static void placesOfF() {
        DUE.sentence("f: to PRECISION places (6 without one), and the point if there are any, or with #");
        DUE.fills("0.000000", "%f", "0");
        DUE.fills("0.000001", "%f", "0.000001");
        DUE.fills("0.000000", "%f", "0.0000005");
        DUE.fills("0.000002", "%f", "0.0000015");
        DUE.fills("1", "%.0f", "1.2");
        DUE.fills("1.", "%#.0f", "1.2");
        DUE.fills("0.", "%#.f", "0");
        DUE.fills("1.2", "%.1f", "1.2");
        DUE.fills("1.2", "%#.1f", "1.2");
        DUE.fills(LEAST, "%.12f", LEAST);
        DUE.fills("0.00000000000", "%.11f", LEAST);
        DUE.fills(LEAST + "0", "%.13f", LEAST);
        DUE.fills(LEAST + zeros(87), "%.99f", LEAST);
        DUE.fills("-" + NINES + ".999999999999" + zeros(87), "%.99f", "-" + NINES + ".999999999999");
        DUE.fills("1000000000000000000", "%.0f", NINES + ".5");
        DUE.fills("-1000000000000000000.00000000000", "%.11f", "-" + NINES + ".999999999999");
        DUE.fills(NINES, "%.0f", NINES + ".499999999999");
        DUE.fills("100", "%.0f", "99.5");
        DUE.fills("1.000", "%.3f", "0.9995");
    }

    private static void digitOfE() {
        DUE.sentence("e E: one digit that is not 0 (but of 0), the point (as for f), PRECISION places (6)");
        DUE.fills("0.000000e+00", "%e", "0");
        DUE.fills("0.000000E+00", "%E", "-0.0");
        DUE.fills("0e+00", "%.0e", "0");
        DUE.fills("0.e+00", "%#.0e", "0");
        DUE.fills("0." + zeros(99) + "e+00", "%.99e", "0");
        DUE.fills("1.000000e-12", "%e", LEAST);
        DUE.fills("1e-12", "%.0e", LEAST);
        DUE.fills("1.E-12", "%#.0E", LEAST);
        DUE.fills("1." + zeros(99) + "e-12", "%.99e", LEAST);
        DUE.fills("1.000000e-01", "%e", "0.1");
        DUE.fills("1.200000e+01", "%e", "12");
        DUE.fills("1.234568e+06", "%e", "1234567.8");
        DUE.fills("1.23456789012345678123456789012e+17", "%.29e", "123456789012345678.123456789012");
        DUE.fills("1.234567890123456781234567890120e+17", "%.30e", "123456789012345678.123456789012");
        DUE.fills("-9." + "9".repeat(29) + "e+17", "%.29e", "-" + NINES + ".999999999999");
        DUE.fills("-1." + zeros(28) + "e+18", "%.28e", "-" + NINES + ".999999999999");
    }

    private static void exponentOfE() {
        DUE.sentence("e or E, the sign of the exponent (+ of 0), its digits, two at least");
        for (int size = 0; size <= 17; size++) {
            String two = (size < 10 ? "0" : "") + size;
            DUE.fills("1e+" + two, "%.0e", "1" + zeros(size));
            DUE.fills("-9E+" + two, "%.0E", "-9" + zeros(size));
        }
        for (int size = 1; size <= 12; size++) {
            String two = (size < 10 ? "0" : "") + size;
            DUE.fills("1e-" + two, "%.0e", "0." + zeros(size - 1) + "1");
            DUE.fills("-9E-" + two, "%.0E", "-0." + zeros(size - 1) + "9");
        }
        DUE.fills("1e+18", "%.0e", NINES);
        DUE.fills("1e+00", "%.0e", "0.95");
        DUE.fills("1e+00", "%.0e", "0.999999999999");
        DUE.fills("1e+01", "%.0e", "9.5");
        DUE.fills("1e-01", "%.0e", "0.095");
        DUE.fills("1e+10", "%.0e", "9999999999");
        DUE.fills("1e-11", "%.0e", "0.00000000001");
        DUE.fills("1.0e-10", "%.1e", "0.0000000001");
    }

    private static void nearest() {
        DUE.sentence("To so many places is the nearest one");
        DUE.fills("0 1 1", "%.0f %.0f %.0f", "0.499999999999", "0.500000000001", "0.51");
        DUE.fills("2 3 -2 -3", "%.0f %.0f %.0f %.0f", "2.499999999999", "2.500000000001", "-2.49", "-2.51");
        DUE.fills("0.4 0.5", "%.1f %.1f", "0.449999999999", "0.450000000001");
        DUE.fills("0.00000000001", "%.11f", "0.000000000006");
        DUE.fills("0.00000000000", "%.11f", "0.000000000004");
        DUE.fills("2e+17 3e+17", "%.0e %.0e", "249999999999999999.999999999999", "250000000000000000.000000000001");
        DUE.fills("1.2e+00 1.3e+00", "%.1e %.1e", "1.249999999999", "1.250000000001");
        DUE.fills("1.2 1.3", "%.2g %.2g", "1.249999999999", "1.250000000001");
        DUE.fills("1.1 1.1 1.2 1.2", "%.1f %.1f %.1f %.1f", "1.11", "1.14", "1.16", "1.19");
    }

    private static void halvesToTheEvenOne() {
        DUE.sentence("of two that are as near the one with the last digit even");
        for (int digit = 0; digit <= 9; digit++) {
            String even = String.valueOf(digit + digit % 2);
            DUE.fills(even, "%.0f", digit + ".5");
            DUE.fills("-" + even, "%.0f", "-" + digit + ".5");
            DUE.fills(digit == 9 ? "2.0" : "1." + even, "%.1f", "1." + digit + "5");
            DUE.fills(digit == 9 ? "2.0e+00" : "1." + even + "e+00", "%.1e", "1." + digit + "5");
            DUE.fills(digit == 9 ? "2" : digit == 0 ? "1" : "1." + even, "%.2g", "1." + digit + "5");
        }
        DUE.fills("0.00000000000 0.00000000002", "%.11f %.11f", "0.000000000005", "0.000000000015");
        DUE.fills("2e+17 4e+17", "%.0e %.0e", "250000000000000000", "350000000000000000");
        DUE.fills("2e-11 4e-11", "%.0e %.0e", "0.000000000025", "0.000000000035");
        DUE.fills("1000000000000000000 999999999999999998", "%.0f %.0f", NINES + ".5", "999999999999999998.5");
        DUE.fills("10 8", "%.0f %.0f", "9.5", "8.5");
        DUE.fills("1e+01 8e+00", "%.0e %.0e", "9.5", "8.5");
        DUE.fills("1.00e+01 9.98e+00", "%.2e %.2e", "9.995", "9.985");
        DUE.fills("1.2345678901234567812345678902e+17", "%.28e", "123456789012345678.123456789015");
        DUE.fills("1.2345678901234567812345678902e+17", "%.28e", "123456789012345678.123456789025");
    }

    private static void precisionOfG() {
        DUE.sentence("g G: p is the PRECISION (6 without one, 1 for 0)");
        DUE.fills("1.23457", "%g", "1.23456789");
        DUE.fills("1 1 1", "%.0g %.1g %.g", "1.23", "1.23", "1.23");
        DUE.fills("1e+01 1e+01", "%.0g %.1g", "12", "12");
        DUE.fills("1.2", "%.2g", "1.23");
        DUE.fills("1.", "%#.0g", "1.23");
        DUE.fills("1.2345678901234567e+17", "%.17g", "123456789012345671");
        DUE.fills("123456789012345678", "%.18g", "123456789012345678.1");
        DUE.fills("123456789012345678.123456789012", "%.99g", "123456789012345678.123456789012");
        DUE.fills("0." + zeros(98), "%#.99g", "0");
    }

    private static void formOfG() {
        DUE.sentence("If e with p - 1 places would have an exponent below -4 or not below p: as e (E) with p - 1 places");
        DUE.fills("0.0001 1e-05", "%g %g", "0.0001", "0.00001");
        DUE.fills("0.0001 1E-05", "%G %G", "0.0001", "0.00001");
        DUE.fills("9.99999e-05", "%g", "0.000099999949");
        DUE.fills("0.0001", "%g", "0.00009999995");
        DUE.fills("0.0001 9e-05", "%.1g %.1g", "0.000095", "0.000094");
        DUE.fills("100000 1e+06", "%g %g", "100000", "1000000");
        DUE.fills("999999 1e+06", "%g %g", "999999.499999", "999999.5");
        DUE.fills("999999 1E+06", "%G %G", "999999.499999", "999999.5");
        for (int p = 1; p <= 18; p++) {
            String most = "9".repeat(p);
            String ten = "1" + zeros(p - 1);
            DUE.fills(most, "%." + p + "g", most);
            DUE.fills(ten, "%." + p + "g", ten);
            DUE.fills("1e+" + (p < 10 ? "0" : "") + p, "%." + p + "g", most + ".5");
            DUE.fills(most, "%." + p + "g", most + ".499999999999");
        }
        DUE.fills("9 1e+01", "%.1g %.1g", "9.4", "9.5");
        DUE.fills("0", "%g", "0");
        DUE.fills("1e-12 -1e-12", "%g %g", LEAST, "-" + LEAST);
        DUE.fills("1." + zeros(98) + "e-12", "%#.99g", LEAST);
    }

    private static void placesOfG() {
        DUE.sentence("else as f with p - 1 less that exponent places");
        DUE.fills("0.000123457", "%g", "0.000123456789");
        DUE.fills("0.00123457", "%g", "0.00123456789");
        DUE.fills("0.0123457", "%g", "0.0123456789");
        DUE.fills("0.123457", "%g", "0.123456789");
        DUE.fills("12.3457", "%g", "12.3456789");
        DUE.fills("12345.7", "%g", "12345.6789");
        DUE.fills("123457", "%g", "123456.789");
        DUE.fills("10.0", "%#.3g", "9.995");
        DUE.fills("100.", "%#.3g", "99.95");
        DUE.fills("1.00", "%#.3g", "0.9995");
        DUE.fills("0.000100", "%#.3g", "0.00009995");
        DUE.fills("0.00000", "%#g", "0");
    }

    private static void zerosOfG() {
        DUE.sentence("without # then the zeros at the end of what is behind the point go, and the point, if nothing is left");
        DUE.fills("1.5 1.50000", "%g %#g", "1.5", "1.5");
        DUE.fills("1 1.00000", "%g %#g", "1", "1");
        DUE.fills("100 100.000", "%g %#g", "100", "100");
        DUE.fills("100 100.", "%.3g %#.3g", "100", "100");
        DUE.fills("100000 100000.", "%g %#g", "100000", "100000");
        DUE.fills("1.05 1.05000", "%g %#g", "1.05", "1.05");
        DUE.fills("0 0.00000", "%g %#g", "0", "0");
        DUE.fills("1e+10 1.00000e+10", "%g %#g", "10000000000", "10000000000");
        DUE.fills("1.5e+10 1.50000e+10", "%g %#g", "15000000000", "15000000000");
        DUE.fills("1E-10 1.00000E-10", "%G %#G", "0.0000000001", "0.0000000001");
        DUE.fills("1e+10 1.e+10", "%.1g %#.1g", "10000000000", "10000000000");
        DUE.fills("1e+06 1.00000e+06", "%g %#g", "999999.9", "999999.9");
        DUE.fills("1e+02 1.0e+02", "%.2g %#.2g", "99.75", "99.75");
        DUE.fills("-1E+03 -01.00E+03", "%.3G %#010.3G", "-999.671875", "-999.671875");
        DUE.fills("0.5 0.500000", "%g %#g", "0.5", "0.5");
        DUE.fills("100000000000000000", "%.99g", "100000000000000000");
    }

    private static void wordsCut() {
        DUE.sentence("s: a TEXT, or the PLAIN text of a DECIMAL; only the first PRECISION characters, if there is one");
        String sixty = "abcdefghij".repeat(6);
        for (int precision = 0; precision <= 99; precision++) {
            DUE.fills(sixty.substring(0, Math.min(60, precision)), "%." + precision + "s", "'" + sixty);
        }
        DUE.fills(sixty, "%s", "'" + sixty);
        DUE.fills("[]", "[%s]", "'");
        DUE.fills("[]", "[%.5s]", "'");
        DUE.fills("-0.5", "%s", "-00.50");
        DUE.fills("-", "%.1s", "-00.50");
        DUE.fills("-0.", "%.3s", "-00.50");
        DUE.fills("-0.5", "%.9s", "-00.50");
        DUE.fills("", "%.0s", "-00.50");
        DUE.fills("-123456789012345678.123456789012", "%.32s", "-123456789012345678.123456789012");
        DUE.fills("-123456789012345678.12345678901", "%.31s", "-123456789012345678.123456789012");
    }

    private static void wordsQuoted() {
        DUE.sentence("q: the same (cut so), then between \", with a \\ ahead of each \" and \\ in it");
        DUE.fills("\"\"", "%q", "'");
        DUE.fills("\"\"", "%.0q", "'abc");
        DUE.fills("\"ab\"", "%.2q", "'abc");
        DUE.fills("\"abc\"", "%.3q", "'abc");
        DUE.fills("\"abc\"", "%.99q", "'abc");
        DUE.fills("\"\\\"\"", "%q", "'\"");
        DUE.fills("\"\\\\\"", "%q", "'\\");
        DUE.fills("\"\\\\\\\"\"", "%q", "'\\\"");
        DUE.fills("\"\\\\\"", "%.1q", "'\\\"");
        DUE.fills("\"a\\\"\"", "%.2q", "'a\"b");
        DUE.fills("\"'/`\"", "%q", "''/`");
        DUE.fills("\"" + "\\\"".repeat(60) + "\"", "%q", "'" + "\"".repeat(60));
        DUE.fills("\"" + "\\\\".repeat(60) + "\"", "%99q", "'" + "\\".repeat(60));
        DUE.fills("\"-0.5\" \"-0\"", "%q %.2q", "-00.50", "-00.50");
    }

    private static void oneCharacter() {
        DUE.sentence("c: one character: a TEXT of one, or the WHOLE part of a DECIMAL as its number (32 .. 126)");
        for (int mark = 32; mark <= 126; mark++) {
            String one = String.valueOf((char) mark);
            DUE.fills(one + one + one, "%c%c%c", "'" + one, String.valueOf(mark), mark + ".999999999999");
        }
        for (String none : new String[] {"31", "31.999999999999", "127", "127.5", "0", "-32", "-65", "-126", "255", "288",
            "321", "65601", "4294967361", NINES, "'", "'ab", "'65", "'" + "a".repeat(60)}) {
            DUE.fills("3@1", "a%c", none);
        }
    }

    private static void notCounted() {
        DUE.sentence("PRECISION and # of c, # of s and q, do not count");
        DUE.fills("AAAAA", "%.0c%.c%.1c%.99c%#c", "65", "65", "'A", "'A", "'A");
        DUE.fills("  A|A  |", "%3.0c|%-#3.0c|", "65", "'A");
        DUE.fills("A", "%.*c", "0", "'A");
        DUE.fills("A", "%.*c", "-7", "'A");
        DUE.fills("abc|ab|5", "%#s|%#.2s|%#s", "'abc", "'abc", "5");
        DUE.fills("\"abc\"|\"ab\"|\"5\"", "%#q|%#.2q|%#q", "'abc", "'abc", "5");
    }

    private static void signBelowZero() {
        DUE.sentence("- if the VALUE (of d, x, X, o, b its WHOLE part) is below 0");
        String[] least = {"-" + LEAST, "-" + LEAST, "-" + LEAST, "-" + LEAST, "-" + LEAST};
        DUE.fills("0 0 0 0 0", "%d %x %X %o %b", least);
        DUE.fills("+0 +0 +0 +0 +0", "%+d %+x %+X %+o %+b", least);
        DUE.fills("-1 -1 -1 -1 -1", "%d %x %X %o %b", "-1", "-1", "-1", "-1", "-1");
        DUE.fills("-1 -1 -1 -1 -1", "%+d %+x %+X %+o %+b", "-1", "-1", "-1", "-1", "-1.9");
        DUE.fills("-1.0 -1e-12 -1E-12 -1e-12 -1E-12", "%.1f %.0e %.0E %g %G",
            "-0.999999999999", least[0], least[0], least[0], least[0]);
    }

    private static void signOfZerosLeft() {
        DUE.sentence("also if only zeros are left by f, e, g");
        DUE.fills("-0 -0. -0.0 -0.00000000000", "%.0f %#.0f %.1f %.11f", "-0.5", "-0.4", "-0.05", "-" + LEAST);
        DUE.fills("-0 -0 -0000", "%+.0f % .0f %05.0f", "-0.1", "-0.1", "-0.1");
        DUE.fills("-0.000000", "%f", "-" + LEAST);
        DUE.fills("0 0.0 +0", "%.0f %.1f %+.0f", "0.5", "0.05", "0.1");
    }

    private static void otherSigns() {
        DUE.sentence("else + with that FLAG, else a blank with that one");
        for (char letter : "dxXobg".toCharArray()) {
            DUE.fills("1|+1| 1|+1|+1|-1|-1", ("%" + letter + "|%+" + letter + "|% " + letter + "|%+ " + letter + "|% +"
                + letter + "|%+" + letter + "|% " + letter), "1", "1", "1", "1", "1", "-1", "-1");
            DUE.fills("0|+0| 0", ("%" + letter + "|%+" + letter + "|% " + letter), "0", "0", "0");
        }
        DUE.fills("+1.0| 1.0|+1e+00| 1E+00|+1| 1", "%+.1f|% .1f|%+.0e|% .0E|%+G|% G", "1", "1", "1", "1", "1", "1");
        DUE.fills("a|\"a\"|a|5", "%+s|% q|%+c|% s", "'a", "'a", "'a", "5");
    }

    private static void widthWithBlanks() {
        DUE.sentence("WIDTH: with less characters blanks come ahead; with - behind");
        for (String letter : new String[] {"d", "x", "o", "s", "g", ".0f"}) {
            DUE.fills("7|7| 7|  7|7|7|7 |7  |", ("%" + letter + "|%1" + letter + "|%2" + letter + "|%3" + letter + "|%-"
                + letter + "|%-1" + letter + "|%-2" + letter + "|%-3" + letter + "|"),
                "7", "7", "7", "7", "7", "7", "7", "7");
        }
        DUE.fills("-12|-12| -12|-12 |", "%2d|%3d|%4d|%-4d|", "-12", "-12", "-12", "-12");
        DUE.fills("0xf|0xf| 0xf|0xf |", "%#2x|%#3x|%#4x|%-#4x|", "15", "15", "15", "15");
        DUE.fills("-0xf|-0xf| -0xf|-0xf |", "%#3x|%#4x|%#5x|%-#5x|", "-15", "-15", "-15", "-15");
        DUE.fills("abc|abc| abc|abc |", "%2s|%3s|%4s|%-4s|", "'abc", "'abc", "'abc", "'abc");
        DUE.fills("\"a\"|\"a\"| \"a\"|\"a\" |", "%2q|%3q|%4q|%-4q|", "'a", "'a", "'a", "'a");
        DUE.fills("a|a| a|a |", "%c|%1c|%2c|%-2c|", "'a", "'a", "'a", "'a");
        DUE.fills(" ".repeat(99), "%99s", "'");
        DUE.fills(" ".repeat(99), "%-99s", "'");
        DUE.fills(" ".repeat(39) + "t".repeat(60), "%99s", "'" + "t".repeat(60));
        DUE.fills("1e+00|1e+00| 1e+00|1e+00 |", "%4.0e|%5.0e|%6.0e|%-6.0e|", "1", "1", "1", "1");
    }

    private static void widthWithZeros() {
        DUE.sentence("with 0 (without -, not of s, q, c) zeros behind sign and 0x (likewise), ahead of the digits");
        DUE.fills("7 07 007", "%01d %02d %03d", "7", "7", "7");
        DUE.fills("-7 -07 +07  07", "%02d %03d %+03d % 03d", "-7", "-7", "7", "7");
        DUE.fills("0xf 0x0f 0X0F 0o07 0b01", "%#03x %#04x %#04X %#04o %#04b", "15", "15", "15", "7", "1");
        DUE.fills("-0x0f +0b01", "%#05x %+#05b", "-15", "1");
        DUE.fills("007 0007", "%03.2d %04.2d", "7", "7");
        DUE.fills("-01.50 01.5e+00 001.5", "%06.2f %08.1e %05g", "-1.5", "1.5", "1.5");
        DUE.fills("-" + zeros(97) + "7", "%099d", "-7");
        DUE.fills("7  |7  |7  |", "%-03d|%0-3d|%0*d|", "7", "7", "-3", "7");
        DUE.fills("  a|  a|\"a\"| \"a\"|  5", "%03s|%03c|%03q|%04q|%03s", "'a", "'a", "'a", "'a", "5");
        DUE.fills("a  |a  |", "%-03s|%0-3c|", "'a", "'a");
        DUE.fills("-00|00.|-0.0", "%03.0f|%#03.0f|%04.1f", "-0.1", "0", "-0.01");
    }

    public static void main(String[] args) {
        wholeWithZerosAhead();
        otherBases();
        sharpOfBases();
        placesOfF();
        digitOfE();
        exponentOfE();
        nearest();
        halvesToTheEvenOne();
        precisionOfG();
        formOfG();
        placesOfG();
        zerosOfG();
        wordsCut();
        wordsQuoted();
        oneCharacter();
        notCounted();
        signBelowZero();
        signOfZerosLeft();
        otherSigns();
        widthWithBlanks();
        widthWithZeros();
        DUE.end();
    }
}
