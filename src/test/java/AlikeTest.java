/** Promise 10. The first VALUE is number 0, as the first character is. */
public final class AlikeTest {
    private static final Due DUE = new Due();

    private static void pair(boolean want, String a, String b) {
        Clerk clerk = Clerk.with(a, b);
        DUE.same(a + " and " + b, clerk.desk.alike(0, 1), want);
        DUE.same(b + " and " + a, clerk.desk.alike(1, 0), want);
        DUE.same(a + " itself", clerk.desk.alike(0, 0), true);
    }

    private static void pairs() {
        pair(true, "1", "1");
        pair(true, "1", "001.000");
        pair(true, "0", "-0.0");
        pair(true, "-1.50", "-01.5");
        pair(false, "1", "-1");
        pair(false, "0.5", "-0.5");
        pair(false, "1", "1.000000000001");
        pair(false, "10", "1");
        pair(false, "1.5", "1.05");
        pair(false, "15", "1.5");
        pair(false, "999999999999999999", "999999999999999998");
        pair(true, "'", "'");
        pair(true, "'abc", "'abc");
        pair(false, "'abc", "'abd");
        pair(false, "'abc", "'ab");
        pair(false, "'abc", "'ABC");
        pair(false, "'1", "'1.0");
        pair(false, "'1", "1");
        pair(false, "'", "0");
    }

    private static void noneSuch() {
        Clerk clerk = Clerk.with("1", "1");
        int[] none = {-1, 2, 12, 13, Integer.MAX_VALUE, Integer.MIN_VALUE};
        for (int a : none) {
            DUE.same("alike(" + a + ", 0)", clerk.desk.alike(a, 0), false);
            DUE.same("alike(0, " + a + ")", clerk.desk.alike(0, a), false);
            DUE.same("alike(" + a + ", " + a + ")", clerk.desk.alike(a, a), false);
        }
        clerk.desk.clear();
        DUE.same("none behind clear()", clerk.desk.alike(0, 1), false);
        clerk.put("1").decimal();
        DUE.same("one again", clerk.desk.alike(0, 0), true);
        DUE.same("no second one", clerk.desk.alike(0, 1), false);
        DUE.same("no second one ahead", clerk.desk.alike(1, 0), false);
    }

    private static void rowOfTwelve() {
        Clerk clerk = new Clerk();
        for (int i = 0; i < 12; i++) {
            clerk.put(String.valueOf(i % 6)).decimal();
        }
        clerk.put("5").decimal();
        DUE.same("the last one", clerk.desk.alike(5, 11), true);
        DUE.same("the last but one", clerk.desk.alike(5, 10), false);
        DUE.same("a 13th", clerk.desk.alike(12, 12), false);
    }

    public static void main(String[] args) {
        pairs();
        noneSuch();
        rowOfTwelve();
        DUE.end();
    }
}
