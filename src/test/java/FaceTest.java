import java.lang.reflect.Constructor;
import java.lang.reflect.Field;
import java.lang.reflect.Method;
import java.lang.reflect.Modifier;
import java.util.Set;
import java.util.TreeSet;

/** The class has the document's face and no other member that is seen from outside. */
public final class FaceTest {
    private static final String[] FACE = {
        "int feed(int,int,int,int,int)",
        "int text(int,int,int)",
        "int fault(int)",
        "boolean drop(int)",
        "int about(int,int)",
        "int gap(int,int,int)",
        "int seen(int,int)",
        "int price(int,int)",
        "int find()",
        "int habit(int,int)",
        "int exception(int,int)",
        "int lay(int)",
        "int turn(int,int)",
        "int house()",
        "int told(int)",
        "boolean take(int)",
        "boolean alike(int,int)",
    };

    public static void main(String[] args) {
        Set<String> want = new TreeSet<>(Set.of(FACE));
        want.add("NONE");
        want.add("HouseManner()");
        Set<String> got = new TreeSet<>();
        for (Method m : HouseManner.class.getDeclaredMethods()) {
            if (!Modifier.isPrivate(m.getModifiers()) && !m.isSynthetic()) {
                got.add(m.getReturnType() + " " + m.getName() + types(m.getParameterTypes()));
            }
        }
        for (Field f : HouseManner.class.getDeclaredFields()) {
            if (!Modifier.isPrivate(f.getModifiers()) && !f.isSynthetic()) {
                got.add(f.getName());
            }
        }
        for (Constructor<?> c : HouseManner.class.getDeclaredConstructors()) {
            got.add(c.getName() + types(c.getParameterTypes()));
        }
        Checks checks = new Checks();
        checks.due("the face", want, () -> got);
        checks.due("public and final", Modifier.PUBLIC | Modifier.FINAL,
                () -> HouseManner.class.getModifiers());
        checks.due("NONE", -1, () -> HouseManner.NONE);
        checks.end();
    }

    private static String types(Class<?>[] types) {
        StringBuilder names = new StringBuilder();
        for (Class<?> type : types) {
            names.append(names.length() > 0 ? "," : "").append(type);
        }
        return "(" + names + ")";
    }
}
