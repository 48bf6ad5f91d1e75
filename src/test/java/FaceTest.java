import java.lang.reflect.Constructor;
import java.lang.reflect.Field;
import java.lang.reflect.Method;
import java.lang.reflect.Modifier;
import java.util.Arrays;
import java.util.Set;
import java.util.TreeSet;

/** The public face: just the members of the document, and nothing else that is not private. */
public final class FaceTest {
    private static final Set<String> DUE = new TreeSet<>(Arrays.asList(
            "int NONE", "int RANGE", "int STATE", "int FULL",
            "new [int, int]",
            "void sign [int] []",
            "int read [] [IllegalStateException]",
            "int place [] []",
            "void octet [int] []",
            "int original [] []",
            "int check [int, boolean, int, int] []",
            "int migrate [int, int] []",
            "int chain [int, int] []",
            "int goesOn [int, int] []",
            "int what [] []",
            "int failed [] []",
            "long counted [] []",
            "int batch [int] []",
            "int undo [] []",
            "int drop [int] []",
            "int about [int, int] []",
            "int at [int, int] [ArrayIndexOutOfBoundsException]",
            "int tried [int] []"));

    public static void main(String[] args) {
        Set<String> seen = new TreeSet<>();
        for (Field f : MigrateSteps.class.getDeclaredFields()) {
            if (!Modifier.isPrivate(f.getModifiers())) {
                seen.add(f.getType().getSimpleName() + " " + f.getName());
            }
        }
        for (Constructor<?> c : MigrateSteps.class.getDeclaredConstructors()) {
            seen.add("new " + Arrays.toString(c.getParameterTypes()));
        }
        Set<String> names = new TreeSet<>();
        for (Method m : MigrateSteps.class.getMethods()) {
            if (m.getDeclaringClass() == MigrateSteps.class) {
                names.add(m.getName());
            }
        }
        for (Method m : MigrateSteps.class.getDeclaredMethods()) {
            if (!Modifier.isPrivate(m.getModifiers())) {
                seen.add(told(m));
            } else {
                Expect.same("private " + m.getName() + " bears a public name", names.contains(m.getName()) ? 1 : 0, 0);
            }
        }
        Expect.same("the face is " + seen + ", due is " + DUE, seen.equals(DUE) ? 1 : 0, 1);
        int modifiers = MigrateSteps.class.getModifiers();
        Expect.same("public and final", Modifier.isPublic(modifiers) && Modifier.isFinal(modifiers) ? 1 : 0, 1);
        Expect.same("NONE", MigrateSteps.NONE, -1);
        Expect.same("RANGE", MigrateSteps.RANGE, -2);
        Expect.same("STATE", MigrateSteps.STATE, -3);
        Expect.same("FULL", MigrateSteps.FULL, -4);
        Expect.end();
    }

    private static String told(Method m) {
        StringBuilder thrown = new StringBuilder();
        for (Class<?> c : m.getExceptionTypes()) {
            thrown.append(c.getSimpleName());
        }
        return m.getReturnType().getSimpleName() + " " + m.getName() + " "
                + Arrays.toString(m.getParameterTypes()) + " [" + thrown + "]";
    }
}
