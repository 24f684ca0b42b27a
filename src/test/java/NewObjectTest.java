/** Promise 1. */
public final class NewObjectTest {
    public static void main(String[] args) {
        Due due = new Due();
        due.same("NONE", FormatDesk.NONE, -1);
        due.same("clear()", new FormatDesk().clear(), 0);
        due.same("letters()", new FormatDesk().letters(), -1);
        due.same("letter(0)", new Clerk().letter(0), "throws.NoSuchElementException");
        due.same("fault", new Clerk().fault(), "0@0");
        due.same("alike(0, 0)", new FormatDesk().alike(0, 0), false);
        due.same("the tape", new Clerk().filled(""), "");
        due.same("the first text", new Clerk().text(), "1");
        due.same("the first decimal", new Clerk().decimal(), "throws.IllegalArgumentException");
        Clerk busy = Clerk.with("1", "2");
        busy.put("abc");
        due.same("another object", new Clerk().filled("%%"), "%");
        due.end();
    }
}
