/** "Terms", a PATTERN with its FLAGS, WIDTH, PRECISION and *: each sentence that names a boundary. */
public final class PatternBoundsTest {
    private static final Due DUE = new Due();

    private static String blanks(int many) {
        return " ".repeat(many);
    }

    private static String zeros(int many) {
        return "0".repeat(many);
    }

    private static void patternLength() {
        DUE.sentence("A PATTERN (at most 200 characters, 32 .. 126)");
        DUE.fills("", "");
        DUE.fills("x", "x");
        DUE.fills("x".repeat(200), "x".repeat(200));
        DUE.fills("x".repeat(198) + "7", "x".repeat(198) + "%d", "7");
        DUE.fills("%".repeat(100), "%".repeat(200));
        Clerk clerk = new Clerk().put("x".repeat(200));
        DUE.same("a character more", clerk.desk.type('y', 1), false);
        DUE.same("200 characters", clerk.fill(), "200");
    }

    private static void charactersForThemselves() {
        DUE.sentence("characters stand for themselves, but % begins a FIELD");
        StringBuilder all = new StringBuilder();
        for (char mark = 32; mark <= 126; mark++) {
            if (mark != '%') {
                all.append(mark);
            }
        }
        DUE.fills(all.toString(), all.toString());
        DUE.fills("d5d", "d%dd", "5");
        DUE.fills("*.05-+ #5", "*.05-+ #%d", "5");
    }

    private static void twoPercents() {
        DUE.sentence("%% is a %");
        DUE.fills("%", "%%");
        DUE.fills("%%", "%%%%");
        DUE.fills("%d", "%%d");
        DUE.fills("%5", "%%%d", "5");
        DUE.fills("5%", "%d%%", "5");
        DUE.fills("x".repeat(198) + "%", "x".repeat(198) + "%%");
        DUE.fills("1@199", "x".repeat(199) + "%");
        DUE.fills("1@198", "%".repeat(198) + "%y");
        DUE.fills("1@0", "%5%");
        DUE.fills("1@0", "%-%");
        DUE.fills("1@0", "%.0%");
    }

    private static void eachFlagOnceOrMore() {
        DUE.sentence("FLAGS (any of - + 0 # and blank, each once or more)");
        DUE.fills("42", "%d", "42");
        for (int times : new int[] {1, 2, 3, 100, 196}) {
            DUE.fills("42  |", "%" + "-".repeat(times) + "4d|", "42");
            DUE.fills("  +42", "%" + "+".repeat(times) + "5d", "42");
            DUE.fills("00042", "%" + "0".repeat(times) + "5d", "42");
            DUE.fills(" 0x2a", "%" + "#".repeat(times) + "5x", "42");
            DUE.fills("    42", "%" + " ".repeat(times) + "6d", "42");
            DUE.fills(" 42", "%" + " ".repeat(times) + "d", "42");
        }
        DUE.fills("+42", "%" + "+ ".repeat(99) + "d", "42");
        DUE.fills("1@0", "%" + "+".repeat(199), "42");
        DUE.fills("1@0", "%!d", "42");
        DUE.fills("1@0", "%'d", "42");
        DUE.fills("1@0", "%,d", "42");
        DUE.fills("1@0", "%(d", "42");
        DUE.fills("1@0", "%_d", "42");
    }

    private static void eachFieldForItself() {
        DUE.sentence("Else FLAGS");
        DUE.fills("042| 42", "%03d|%3d", "42", "42");
        DUE.fills("42 | 42", "%-3d|%3d", "42", "42");
        DUE.fills("+42|42", "%+d|%d", "42", "42");
        DUE.fills(" 42|42", "% d|%d", "42", "42");
        DUE.fills("0x2a|2a", "%#x|%x", "42", "42");
        DUE.fills(" 42|42", "%3d|%d", "42", "42");
        DUE.fills("042|42", "%.3d|%d", "42", "42");
        DUE.fills(" 42|42", "%*d|%d", "3", "42", "42");
        DUE.fills("042|42", "%.*d|%d", "3", "42", "42");
        DUE.fills("42 | 42", "%*d|%3d", "-3", "42", "42");
        DUE.fills("-42|42", "%d|%d", "-42", "42");
        DUE.fills("0x2a|a", "%#x|%s", "42", "'a");
        DUE.fills("-42|a", "%d|%c", "-42", "'a");
        DUE.fills("042|a", "%.3d|%s", "42", "'a");
    }

    private static void flagsInAnyOrder(String flags, String rest) {
        if (rest.isEmpty()) {
            DUE.fills("+0x2a  |", "%" + flags + "7x|", "42");
            DUE.fills("+0x2a  |", "%" + flags + flags + "7x|", "42");
        }
        for (int i = 0; i < rest.length(); i++) {
            flagsInAnyOrder(flags + rest.charAt(i), rest.substring(0, i) + rest.substring(i + 1));
        }
    }

    private static void widthToNinetyNine() {
        DUE.sentence("a WIDTH (a NUMBER up to 99 without a 0 at its beginning, or *)");
        for (int width = 1; width <= 99; width++) {
            DUE.fills(blanks(width - 1) + "7", "%" + width + "d", "7");
            DUE.fills(zeros(width - 1) + "7", "%0" + width + "d", "7");
        }
        for (String width : new String[] {"100", "101", "199", "990", "999", "1000", "0100", "10000000005", "4294967301"}) {
            DUE.fills("1@1", "a%" + width + "d", "7");
        }
        DUE.fills("7", "%0d", "7");
        DUE.fills("7", "%00d", "7");
        DUE.fills("07", "%02d", "7");
        DUE.fills("1@0", "%5 d", "7");
        DUE.fills("1@0", "%5-d", "7");
        DUE.fills("1@0", "%5#d", "7");
        DUE.fills("1@0", "%5*d", "5", "7");
        DUE.fills("1@0", "%*5d", "5", "7");
        DUE.fills("1@0", "%**d", "5", "5", "7");
        DUE.fills("1@0", "%*0d", "5", "7");
    }

    private static void precisionOfOneOrTwoDigits() {
        DUE.sentence("perhaps . and a PRECISION (a NUMBER of 1 or 2 digits, *, or nothing, which is 0)");
        for (int precision = 1; precision <= 99; precision++) {
            DUE.fills(zeros(precision - 1) + "7", "%." + precision + "d", "7");
            DUE.fills("7." + zeros(precision), "%." + precision + "f", "7");
        }
        for (int precision = 0; precision <= 9; precision++) {
            DUE.fills("7." + zeros(precision), "%#.0" + precision + "f", "7");
        }
        DUE.fills("8", "%.f", "7.6");
        DUE.fills("8", "%.0f", "7.6");
        DUE.fills("8", "%.00f", "7.6");
        DUE.fills("8.", "%#.f", "7.6");
        DUE.fills("8e+00", "%.e", "7.6");
        DUE.fills("8", "%.g", "7.6");
        DUE.fills("", "%.s", "'abc");
        DUE.fills("\"\"", "%.q", "'abc");
        DUE.fills("  8", "%3.f", "7.6");
        for (String precision : new String[] {"100", "000", "001", "099", "990", "0000", "-1", "+1", " 1", "#", ".", "*1",
            "1*", "**", "1.1", "4294967297"}) {
            DUE.fills("1@1", "a%." + precision + "d", "1", "1", "7");
        }
    }

    private static void starTakesTheNextValue() {
        DUE.sentence("* takes the next VALUE of the row (that of the WIDTH first)");
        DUE.fills("  7", "%*d", "3", "7");
        DUE.fills("007", "%.*d", "3", "7");
        DUE.fills("   07", "%*.*d", "5", "2", "7");
        DUE.fills("00007", "%*.*d", "2", "5", "7");
        DUE.fills("   07", "%5.*d", "2", "7");
        DUE.fills("   07", "%*.2d", "5", "7");
        DUE.fills(" 2|03|   4|00006", "%*d|%.*d|%*d|%.*d", "2", "2", "2", "3", "4", "4", "5", "6");
        String allTwelve = "%*.*d|%*.*d|%*.*d|%*.*d";
        DUE.fills(" 1| 02|  3|  04", allTwelve, "2", "1", "1", "3", "2", "2", "3", "1", "3", "4", "2", "4");
        DUE.fills("2@18", allTwelve, "2", "1", "1", "3", "2", "2", "3", "1", "3", "4", "2");
    }

    private static void starInItsBounds() {
        DUE.sentence("its WHOLE part, which must be -99 .. 99");
        DUE.fills(blanks(98) + "7", "%*d", "99", "7");
        DUE.fills(blanks(98) + "7", "%*d", "99.999999999999", "7");
        DUE.fills("7" + blanks(98), "%*d", "-99", "7");
        DUE.fills("7" + blanks(98), "%*d", "-99.999999999999", "7");
        DUE.fills(zeros(98) + "7", "%.*d", "99.999999999999", "7");
        DUE.fills("7.000000", "%.*f", "-99.999999999999", "7");
        for (String star : new String[] {"100", "-100", "100.5", "-100.000000000001", "256", "4294967296", "-4294967297",
            "999999999999999999", "-999999999999999999"}) {
            DUE.fills("3@1", "a%*d", star, "7");
            DUE.fills("3@1", "a%.*d", star, "7");
            DUE.fills("3@1", "a%*.*d", "1", star, "7");
            DUE.fills("3@1", "a%*.*d", star, "1", "7");
            DUE.fills("3@1", "a%.*c", star, "'c");
        }
    }

    private static void widthBelowZero() {
        DUE.sentence("a WIDTH below 0 is the FLAG - and the one above 0");
        for (int width = 1; width <= 99; width++) {
            DUE.fills("7" + blanks(width - 1), "%*d", "-" + width, "7");
        }
        DUE.fills("7    |", "%0*d|", "-5", "7");
        DUE.fills("7    |", "%-*d|", "-5", "7");
        DUE.fills("7    |", "%-*d|", "5", "7");
        DUE.fills("abc  |", "%*s|", "-5.9", "'abc");
        DUE.fills("7|", "%*d|", "-1", "7");
        DUE.fills("7|", "%*d|", "0", "7");
        DUE.fills("7|", "%*d|", "-0.999999999999", "7");
        DUE.fills("7|", "%*d|", "0.999999999999", "7");
        DUE.fills("7    |00008", "%*d|%05d", "-5", "7", "8");
    }

    private static void precisionBelowZero() {
        DUE.sentence("a PRECISION below 0 is none");
        for (String none : new String[] {"-1", "-1.5", "-9", "-98", "-99.9"}) {
            DUE.fills("7.600000", "%.*f", none, "7.6");
            DUE.fills("7.600000e+00", "%.*e", none, "7.6");
            DUE.fills("7.65432", "%.*g", none, "7.65432");
            DUE.fills("7", "%.*d", none, "7");
            DUE.fills("abc", "%.*s", none, "'abc");
            DUE.fills("\"abc\"", "%.*q", none, "'abc");
        }
        for (String nothing : new String[] {"0", "-0", "0.9", "-0.999999999999"}) {
            DUE.fills("8", "%.*f", nothing, "7.6");
            DUE.fills("8e+00", "%.*e", nothing, "7.6");
            DUE.fills("8", "%.*g", nothing, "7.65432");
            DUE.fills("", "%.*s", nothing, "'abc");
        }
        DUE.fills("7.600000|7.6|7.600000", "%.*f|%.1f|%f", "-1", "7.6", "7.6", "7.6");
        DUE.fills("007.6", "%0*.*f", "5", "1", "7.6");
    }

    public static void main(String[] args) {
        patternLength();
        charactersForThemselves();
        twoPercents();
        eachFlagOnceOrMore();
        eachFieldForItself();
        DUE.sentence("any of - + 0 # and blank");
        flagsInAnyOrder("", "-+0# ");
        widthToNinetyNine();
        precisionOfOneOrTwoDigits();
        starTakesTheNextValue();
        starInItsBounds();
        widthBelowZero();
        precisionBelowZero();
        DUE.end();
    }
}
