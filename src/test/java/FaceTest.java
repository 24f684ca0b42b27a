import java.lang.reflect.Constructor;
import java.lang.reflect.Field;
import java.lang.reflect.Method;
import java.lang.reflect.Modifier;
import java.util.Arrays;
import java.util.Set;
import java.util.TreeSet;

/** The public face, as the document gives it, and nothing else that can be seen from outside. */
public final class FaceTest {
    private static String names(Class<?>[] types) {
        return String.join(", ", Arrays.stream(types).map(Class::getSimpleName).toList());
    }

    private static Set<String> seen() {
        Set<String> seen = new TreeSet<>();
        for (Field f : FormatDesk.class.getDeclaredFields()) {
            if (!Modifier.isPrivate(f.getModifiers())) {
                seen.add(Modifier.toString(f.getModifiers()) + " " + f.getType() + " " + f.getName());
            }
        }
        for (Constructor<?> c : FormatDesk.class.getDeclaredConstructors()) {
            seen.add(Modifier.toString(c.getModifiers()) + " FormatDesk(" + names(c.getParameterTypes()) + ")");
        }
        for (Method m : FormatDesk.class.getDeclaredMethods()) {
            if (!Modifier.isPrivate(m.getModifiers())) {
                String thrown = names(m.getExceptionTypes());
                seen.add(Modifier.toString(m.getModifiers()) + " " + m.getReturnType() + " " + m.getName() + "("
                    + names(m.getParameterTypes()) + ")" + (thrown.isEmpty() ? "" : " throws " + thrown));
            }
        }
        return seen;
    }

    /** By rule 1 of LANGUAGE.md there are none. */
    private static Set<String> hiddenWithPublicName() {
        Set<String> open = new TreeSet<>();
        Set<String> hidden = new TreeSet<>();
        for (Method m : FormatDesk.class.getDeclaredMethods()) {
            (Modifier.isPublic(m.getModifiers()) ? open : hidden).add(m.getName());
        }
        hidden.retainAll(open);
        return hidden;
    }

    public static void main(String[] args) {
        Due due = new Due();
        due.same("private methods with a public one's name", hiddenWithPublicName(), Set.of());
        due.same("the face", seen(), new TreeSet<>(Set.of(
            "public static final int NONE",
            "public FormatDesk()",
            "public boolean type(long, int)",
            "public int text()",
            "public int decimal() throws IllegalArgumentException, IllegalStateException",
            "public int clear()",
            "public int fill() throws IllegalArgumentException",
            "public int fault(int)",
            "public int letter(int) throws NoSuchElementException",
            "public int letters()",
            "public boolean alike(int, int)")));
        due.same("the class", Modifier.toString(FormatDesk.class.getModifiers()), "public final");
        for (Class<?> inside : FormatDesk.class.getDeclaredClasses()) {
            due.same(inside + " is static", Modifier.isStatic(inside.getModifiers()), true);
            due.same(inside + " is public", Modifier.isPublic(inside.getModifiers()), false);
        }
        due.end();
    }
}
