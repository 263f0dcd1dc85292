import java.lang.reflect.Constructor;
import java.lang.reflect.Field;
import java.lang.reflect.Method;
import java.lang.reflect.Modifier;
import java.util.Set;
import java.util.TreeSet;

/** The class has the document's face and no other member that is seen from outside. */
public final class FaceTest {
    private static final String ILLEGAL = " throws IllegalArgumentException";
    private static final String NO_SUCH = " throws NoSuchElementException";
    private static final String BOTH = " throws NoSuchElementException, IllegalArgumentException";

    private static final String[] FACE = {
        "public int feed(int,int,int,int,int)",
        "public int text(int,int,int)" + ILLEGAL,
        "public int fault(int)" + NO_SUCH,
        "public boolean drop(int)" + ILLEGAL,
        "public int about(int,int)" + NO_SUCH,
        "public int gap(int,int,int)" + NO_SUCH,
        "public int seen(int,int)" + ILLEGAL,
        "public int price(int,int)" + ILLEGAL,
        "public int find()",
        "public int habit(int,int)" + ILLEGAL,
        "public int exception(int,int)" + BOTH,
        "public int lay(int)" + NO_SUCH,
        "public int turn(int,int)" + BOTH,
        "public int house()",
        "public int told(int)" + NO_SUCH,
        "public boolean take(int)" + NO_SUCH,
        "public boolean alike(int,int)" + NO_SUCH,
        "public static final int NONE",
        "public HouseManner()",
    };

    public static void main(String[] args) {
        Checks checks = new Checks();
        checks.due("the face", new TreeSet<>(Set.of(FACE)), () -> seenFromOutside());
        checks.due("public and final", Modifier.PUBLIC | Modifier.FINAL,
                () -> HouseManner.class.getModifiers());
        checks.due("it stands alone", Object.class, () -> HouseManner.class.getSuperclass());
        checks.due("NONE", -1, () -> HouseManner.NONE);
        checks.due("private methods with a public one's name", Set.of(), () -> twiceNamed());
        checks.due("inner classes that are not static, or public", Set.of(), () -> wrongClasses());
        checks.end();
    }

    private static Set<String> seenFromOutside() {
        Set<String> seen = new TreeSet<>();
        for (Method m : HouseManner.class.getDeclaredMethods()) {
            if (!Modifier.isPrivate(m.getModifiers()) && !m.isSynthetic()) {
                seen.add(Modifier.toString(m.getModifiers()) + " " + m.getReturnType() + " "
                        + m.getName() + types(m.getParameterTypes()) + thrown(m));
            }
        }
        for (Field f : HouseManner.class.getDeclaredFields()) {
            if (!Modifier.isPrivate(f.getModifiers()) && !f.isSynthetic()) {
                seen.add(Modifier.toString(f.getModifiers()) + " " + f.getType() + " " + f.getName());
            }
        }
        for (Constructor<?> c : HouseManner.class.getDeclaredConstructors()) {
            seen.add(Modifier.toString(c.getModifiers()) + " " + c.getName()
                    + types(c.getParameterTypes()));
        }
        return seen;
    }

    private static String thrown(Method method) {
        StringBuilder names = new StringBuilder();
        for (Class<?> type : method.getExceptionTypes()) {
            names.append(names.length() > 0 ? ", " : " throws ").append(type.getSimpleName());
        }
        return names.toString();
    }

    private static Set<String> twiceNamed() {
        Set<String> open = new TreeSet<>();
        for (Method m : HouseManner.class.getMethods()) {
            open.add(m.getName());
        }
        Set<String> twice = new TreeSet<>();
        for (Method m : HouseManner.class.getDeclaredMethods()) {
            if (Modifier.isPrivate(m.getModifiers()) && open.contains(m.getName())) {
                twice.add(m.getName());
            }
        }
        return twice;
    }

    private static Set<String> wrongClasses() {
        Set<String> wrong = new TreeSet<>();
        for (Class<?> inner : HouseManner.class.getDeclaredClasses()) {
            int has = inner.getModifiers();
            if (!Modifier.isStatic(has) || Modifier.isPublic(has) || Modifier.isProtected(has)) {
                wrong.add(inner.getSimpleName());
            }
        }
        return wrong;
    }

    private static String types(Class<?>[] types) {
        StringBuilder names = new StringBuilder();
        for (Class<?> type : types) {
            names.append(names.length() > 0 ? "," : "").append(type);
        }
        return "(" + names + ")";
    }
}
