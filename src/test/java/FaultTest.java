/** Promise 7, and the FAULTS of a PATTERN. */
public final class FaultTest {
    private static final Due DUE = new Due();

    private static void faults(String want, String pattern, String... values) {
        String what = pattern + " of " + String.join(", ", values);
        DUE.same(what, Clerk.with(values).filled(pattern), want);
    }

    private static void noField() {
        String[] ends = {"%", "%-", "%5", "%55", "%.", "%.5", "%.55", "%*", "%*.", "%*.*", "%+ 0#-", "%05.3"};
        for (String end : ends) {
            faults("1@2", "ab" + end, "1", "2", "3");
        }
        String[] none = {"%100d", "%123d", "%0100d", "%.100d", "%.000d", "%5%", "%-%", "%.%", "%*%", "%5*d", "%*5d",
            "%**d", "%.**d", "%.*5d", "%.5*d", "%5-d", "%5+d", "%.-5d", "%. d", "%..d", "%5.2.1d", "%a", "%i", "%u",
            "%D", "%F", "%S", "%O", "%B", "%Q", "%C", "%ld", "%1$d", "%!", "%~", "%(d", "%5 d", "%.+d", "%,d", "%\"",
            "%.5#d", "%n", "%/d", "%:d", "%.:d", "%y", "%w", "%h"};
        for (String field : none) {
            faults("1@2", "ab" + field + "%%", "1", "2", "3");
        }
        faults("1@2", "%%%", "1");
        faults("1@0", "%y%y");
        faults("1@199", "x".repeat(199) + "%");
    }

    /** A FIELD that is none counts ahead of all that the filling would find. */
    private static void noFieldFirst() {
        faults("1@2", "%d%");
        faults("1@2", "%d%y", "'x");
        faults("1@5", "%99d %", "1", "2");
        StringBuilder longOne = new StringBuilder();
        for (int i = 0; i < 8; i++) {
            longOne.append("%99d");
        }
        faults("1@32", longOne + "%", "1", "2", "3", "4", "5", "6", "7", "8");
    }

    private static void noValue() {
        faults("2@0", "%d");
        faults("2@3", "%d %d", "1");
        faults("2@2", "%%%s");
        faults("2@1", " %*d");
        faults("2@1", " %*d", "1");
        faults("2@1", " %*.*d", "1", "1");
        faults("2@1", " %.*d", "1");
        faults("2@1", " %*.*d", "1");
        faults("2@4", "%*d %*d", "1", "1");
    }

    private static void wrongSort() {
        for (char letter : "dxXobfeEgG".toCharArray()) {
            faults("3@1", "a%" + letter, "'5");
            faults("3@1", "a%" + letter, "'");
        }
        faults("3@1", "a%*d", "'5", "1");
        faults("3@1", "a%.*d", "'5", "1");
        faults("3@1", "a%*d", "100", "1");
        faults("3@1", "a%*d", "-100", "1");
        faults("3@1", "a%.*d", "100", "1");
        faults("3@1", "a%.*d", "-100", "1");
        faults("3@1", "a%*.*d", "1", "100", "1");
        faults("3@1", "a%*s", "999999999999999999", "'x");
        faults("3@1", "a%*s", "4294967297", "'x");
        faults("3@0", "%c", "31.9");
        faults("3@0", "%c", "127");
        faults("3@0", "%c", "-65");
        faults("3@0", "%c", "4294967361");
        faults("3@0", "%c", "0");
        faults("3@0", "%c", "'");
        faults("3@0", "%c", "'ab");
        faults("3@0", "%.*c", "100", "'a");
        faults("3@2", "%s%d", "'a", "'b");
    }

    /** The * takes its VALUE before the LETTER does, so its fault comes first. */
    private static void inTheirOrder() {
        faults("3@0", "%*d", "'x");
        faults("3@0", "%*.*d", "'x");
        faults("2@0", "%d%d");
        faults("3@0", "%d%d%d", "'x", "1");
        faults("2@2", "%d%d", "1");
        faults("3@0", "%d", "'x", "1");
        faults("2@0", "%*d%s", "5");
    }

    private static void valuesLeft() {
        faults("4@0", "", "1");
        faults("4@3", "abc", "1");
        faults("4@2", "%%", "1");
        faults("4@5", "%*d%%", "1", "2", "3");
        faults("4@200", "x".repeat(200), "'");
    }

    private static Clerk twelve() {
        String[] values = new String[12];
        java.util.Arrays.fill(values, "1");
        return Clerk.with(values);
    }

    private static void tooLong() {
        String six = "%99d%99d%99d%99d%99d%99d";
        String rest = "%s%s%s%s%s%s";
        DUE.same("600 by marks", twelve().filled(six + rest).length(), 300);
        DUE.same("600 in all", twelve().put(six + rest).fill(), "600");
        DUE.same("601 by a mark behind", twelve().filled(six + rest + "x"), "5@36");
        DUE.same("601 by a later field", twelve().filled(six + "ab" + rest + "x"), "5@34");
        DUE.same("601 by %%", twelve().filled(six + "abcdef%%" + rest), "5@30");
        DUE.same("601 by a field", twelve().filled(six + "abcdef%s" + rest), "5@30");
        DUE.same("601 by a wide field", twelve().filled(six + "%7d" + rest), "5@24");
        DUE.same("600 by a wide field, then a mark", twelve().filled(six + "%6dy" + rest), "5@27");
        DUE.same("ahead of values left", twelve().filled(six + "abcdefg"), "5@30");
        DUE.same("values left at 600", twelve().filled(six + "abcdef"), "4@30");
        DUE.same("ahead of a later fault", twelve().filled(six + "abcdefg" + rest + "%d"), "5@30");
        DUE.same("behind an earlier fault", twelve().filled(six + rest + "%d" + "x"), "2@36");
        DUE.same("no value in the field itself", twelve().filled(six + rest + "%99d"), "2@36");
        DUE.same("an empty field at 600", Clerk.with("1", "1", "1", "1", "1", "1", "'abcdef", "'")
            .put(six + "%s%s").fill(), "600");
    }

    private static void wrongSortAheadOfTooLong() {
        String six = "%99d%99d%99d%99d%99d%99d";
        Clerk clerk = Clerk.with("1", "1", "1", "1", "1", "1", "'abcdef");
        DUE.same("wrong sort, too wide", clerk.filled(six + "%99d"), "3@24");
    }

    private static void whatAndWhen() {
        Clerk clerk = Clerk.with("1");
        for (int what : new int[] {-1, 2, 3, Integer.MAX_VALUE, Integer.MIN_VALUE}) {
            DUE.same("fault(" + what + ")", clerk.desk.fault(what), -1);
        }
        DUE.same("before a fill", clerk.fault(), "0@0");
        clerk.put("abc%z").fill();
        DUE.same("of the fill", clerk.fault(), "1@3");
        DUE.same("fault(2) then", clerk.desk.fault(2), -1);
        clerk.put("x").decimal();
        clerk.put("y").text();
        clerk.desk.clear();
        DUE.same("other calls leave it", clerk.fault(), "1@3");
        clerk.put("abc").fill();
        DUE.same("the latest one counts", clerk.fault(), "0@0");
        clerk.put("abcd%d").fill();
        DUE.same("the latest one again", clerk.fault(), "2@4");
    }

    public static void main(String[] args) {
        noField();
        noFieldFirst();
        noValue();
        wrongSort();
        inTheirOrder();
        valuesLeft();
        tooLong();
        wrongSortAheadOfTooLong();
        whatAndWhen();
        DUE.end();
    }
}
