/** "Terms", the FAULTS 1 to 5 with their places: each sentence that names a boundary. */
public final class FaultBoundsTest {
    private static final Due DUE = new Due();
    private static final String[] TWELVE = {"1", "1", "1", "1", "1", "1", "1", "1", "1", "1", "1", "1"};
    private static final String SIX_WIDE = "%99d%99d%99d%99d%99d%99d";

    private static String[] some(int many) {
        return java.util.Arrays.copyOf(TWELVE, many);
    }

    private static void noFieldThere() {
        DUE.sentence("1 no FIELD (what stands there is none");
        for (char mark = 32; mark <= 126; mark++) {
            boolean goesOn = "dxXobfeEgGsqc%-+0# *.123456789".indexOf(mark) >= 0;
            if (!goesOn) {
                DUE.fills("1@0", "%" + mark, "1");
                DUE.fills("1@3", "abc%" + mark + "d", "1");
                DUE.fills("1@1", " %5" + mark, "1");
                DUE.fills("1@1", " %.5" + mark + "d", "1");
                DUE.fills("1@1", " %-5.3" + mark, "1");
            }
        }
        String[] none = {"%100d", "%.100d", "%5%", "%-%", "%.%", "%*%", "%.*%", "%5*d", "%*5d", "%..d", "%.5.d", "%5-d",
            "%.-d", "%1$d", "%ld", "%hd", "%Lf", "%i", "%u", "%p", "%n", "%a", "%A", "%D", "%O", "%B", "%F", "%S", "%Q", "%C"};
        for (String field : none) {
            DUE.fills("1@0", field, "1");
            DUE.fills("1@4", "a%%b" + field + "cd", "1");
        }
    }

    private static void endsTooEarly() {
        DUE.sentence("or it ends too early)");
        String[] ends = {"%", "%-", "%+", "%0", "%#", "% ", "%-+0# ", "%5", "%99", "%05", "%.", "%5.", "%.5", "%.99", "%5.5",
            "%*", "%*.", "%*.*", "%.*", "%-*.*"};
        for (String end : ends) {
            DUE.fills("1@0", end, "1", "1", "1");
            DUE.fills("1@4", "ab%%" + end, "1", "1", "1");
            DUE.fills("1@" + (200 - end.length()), "x".repeat(200 - end.length()) + end);
        }
    }

    private static void placeOfItsPercent() {
        DUE.sentence("FAULTS of a PATTERN, with the place of its %");
        DUE.fills("1@0", "%y");
        DUE.fills("1@3", "abc%-05.2y");
        DUE.fills("1@2", "%%%y");
        DUE.fills("1@2", "%d%y%z", "1");
        DUE.fills("2@3", "abc%-05.2d");
        DUE.fills("3@3", "abc%-05.2d", "'x");
        DUE.fills("2@198", "x".repeat(198) + "%d");
        DUE.fills("3@198", "x".repeat(198) + "%d", "'x");
        DUE.fills("1@198", "x".repeat(198) + "%y");
    }

    private static void noFieldAheadOfFilling() {
        DUE.sentence("Else when it is filled");
        DUE.fills("1@2", "%d%y");
        DUE.fills("1@2", "%d%y", "'x");
        DUE.fills("1@4", "%*d %y", "100", "1");
        DUE.fills("1@0", "%y", "1", "2");
        DUE.fills("1@32", "%99d".repeat(8) + "%", some(8));
        DUE.fills("1@24", "%99d".repeat(6) + "%y" + "x".repeat(99), some(6));
    }

    private static void fieldByField() {
        DUE.sentence("FIELD by FIELD");
        DUE.fills("3@0", "%d%d", "'x");
        DUE.fills("2@2", "%d%d", "1");
        DUE.fills("3@2", "%s%d%d", "'x", "'x");
        DUE.fills("3@0", "%d%*d", "'x", "100");
        DUE.fills("3@2", "%d%*d%d", "1", "100");
        DUE.fills("2@2", "%d%*d%c", "1", "5");
        DUE.fills("3@3", "%*d%c", "1", "1", "'ab");
    }

    private static void noValueLeft() {
        DUE.sentence("2 no VALUE is left for it (or for a *)");
        for (char letter : "dxXobfeEgGsqc".toCharArray()) {
            DUE.fills("2@0", "%" + letter);
            DUE.fills("2@1", "a%*" + letter);
            DUE.fills("2@1", "a%*" + letter, "1");
            DUE.fills("2@1", "a%.*" + letter);
            DUE.fills("2@1", "a%.*" + letter, "1");
            DUE.fills("2@1", "a%*.*" + letter, "1");
            DUE.fills("2@1", "a%*.*" + letter, "1", "1");
            DUE.fills("2@3", "%d,%" + letter, "1");
        }
        DUE.fills("2@24", "%d".repeat(13), TWELVE);
        DUE.fills("1".repeat(12), "%d".repeat(12), TWELVE);
        Clerk clerk = Clerk.with(TWELVE);
        clerk.desk.clear();
        DUE.same("behind clear()", clerk.filled("%s"), "2@0");
    }

    private static void notOfItsSort() {
        DUE.sentence("3 a VALUE is not of the sort it needs (d x X o b f e E g G a DECIMAL; * a DECIMAL in its bounds; c as told)");
        for (char letter : "dxXobfeEgG".toCharArray()) {
            for (String text : new String[] {"'", "'1", "'-1.5", "'x", "'" + "1".repeat(18)}) {
                DUE.fills("3@0", "%" + letter, text);
                DUE.fills("3@3", "%s,%" + letter, text, text);
            }
        }
        for (char letter : "dxXobfeEgGsq".toCharArray()) {
            DUE.fills("3@1", "a%*" + letter, "'1", "1");
            DUE.fills("3@1", "a%.*" + letter, "'1", "1");
            DUE.fills("3@1", "a%*.*" + letter, "1", "'1", "1");
            DUE.fills("3@1", "a%*" + letter, "100", "1");
            DUE.fills("3@1", "a%.*" + letter, "-100", "1");
        }
        DUE.fills("3@0", "%c", "'");
        DUE.fills("3@0", "%c", "'ab");
        DUE.fills("3@0", "%c", "31.9");
        DUE.fills("3@0", "%c", "127");
        DUE.fills("5\"5\"x\"x\"", "%s%q%s%q", "5", "5", "'x", "'x");
    }

    private static void valuesLeft() {
        DUE.sentence("behind all: 4 VALUES are left (place: the PATTERN's length)");
        DUE.fills("4@0", "", "1");
        DUE.fills("4@0", "", TWELVE);
        DUE.fills("4@1", "a", "'");
        DUE.fills("4@2", "%%", "1");
        DUE.fills("4@2", "%d", "1", "1");
        DUE.fills("4@22", "%d".repeat(11), TWELVE);
        DUE.fills("4@200", "x".repeat(200), "1");
        DUE.fills("4@200", "x".repeat(198) + "%d", "1", "1");
        DUE.fills("4@3", "%*d", "1", "1", "1");
        DUE.fills("3@0", "%d", "'x", "1");
        DUE.fills("3@1", "a%*d", "100", "1", "1");
        DUE.fills("1@2", "%d%", "1", "1");
    }

    private static void moreThanSixHundred() {
        DUE.sentence("5 more than 600 characters");
        String blanksAndOne = " ".repeat(49) + "1";
        DUE.fills(blanksAndOne.repeat(12), "%50d".repeat(12), TWELVE);
        DUE.fills("5@44", "%50d".repeat(11) + "%51d", TWELVE);
        DUE.fills("5@48", "%50d".repeat(12) + "x", TWELVE);
        DUE.fills("5@48", "%50d".repeat(12) + "%%", TWELVE);
        DUE.fills("x".repeat(6) + (" ".repeat(98) + "1").repeat(6), "xxxxxx" + SIX_WIDE, some(6));
        DUE.fills("5@27", "xxxxxxx" + SIX_WIDE, some(6));
        String text = "t".repeat(60);
        String[] texts = new String[11];
        java.util.Arrays.fill(texts, "'" + text);
        DUE.fills("5@20", "%s".repeat(11), texts);
        texts[10] = "'";
        DUE.fills(text.repeat(10), "%s".repeat(11), texts);
        texts[10] = "'t";
        DUE.fills("5@20", "%s".repeat(11), texts);
    }

    private static void asSoonAsTheyComeUp() {
        DUE.sentence("(as soon as they come up");
        DUE.fills("5@30", SIX_WIDE + "abcdefg", some(6));
        DUE.fills("5@30", SIX_WIDE + "abcdefg", some(7));
        DUE.fills("5@30", SIX_WIDE + "abcdefg%d", some(6));
        DUE.fills("5@30", SIX_WIDE + "abcdefg%*d", "1", "1", "1", "1", "1", "1", "'x");
        DUE.fills("5@24", SIX_WIDE + "%99d%d", some(7));
        DUE.fills("2@24", SIX_WIDE + "%99d", some(6));
        DUE.fills("3@24", SIX_WIDE + "%99d", "1", "1", "1", "1", "1", "1", "'x");
        DUE.fills("4@30", SIX_WIDE + "abcdef", some(7));
        DUE.fills("2@0", "%99d" + SIX_WIDE);
    }

    private static void placeOfTheCharacter() {
        DUE.sentence("place of its %, or of the character)");
        DUE.fills("5@30", SIX_WIDE + "abcdefghij", some(6));
        DUE.fills("5@30", SIX_WIDE + "abcdef%%%%", some(6));
        DUE.fills("5@33", SIX_WIDE + "abc%%%%%%%%", some(6));
        DUE.fills("5@30", SIX_WIDE + "abcdef%s", some(7));
        DUE.fills("5@24", SIX_WIDE + "%7s", some(7));
        DUE.fills("5@27", SIX_WIDE + "%6sx", some(7));
        DUE.fills("5@24", SIX_WIDE + "%*s", "1", "1", "1", "1", "1", "1", "7", "1");
        DUE.fills("5@199", "%99d%99d%99d%99d%25d" + "x".repeat(180), some(5));
        DUE.same("600 of 200", Clerk.with(some(5)).put("%99d%99d%99d%99d%24d" + "x".repeat(180)).fill(), "600");
        DUE.fills("5@196", "%99d%99d%99d%99d%26d" + "x".repeat(176) + "%3d", some(6));
    }

    public static void main(String[] args) {
        noFieldThere();
        endsTooEarly();
        placeOfItsPercent();
        noFieldAheadOfFilling();
        fieldByField();
        noValueLeft();
        notOfItsSort();
        valuesLeft();
        moreThanSixHundred();
        asSoonAsTheyComeUp();
        placeOfTheCharacter();
        DUE.end();
    }
}
