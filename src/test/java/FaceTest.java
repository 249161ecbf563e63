import java.lang.reflect.Constructor;
import java.lang.reflect.Field;
import java.lang.reflect.Method;
import java.lang.reflect.Modifier;
import java.util.Arrays;
import java.util.HashSet;
import java.util.NoSuchElementException;
import java.util.Set;
import java.util.TreeSet;

/** The class has the public face of the document and no other member that is not private. */
public final class FaceTest {
    private static final String[] DUE = {
        "void variable(int, int)",
        "void only(int, int)",
        "void join(int, int, int, int)",
        "void choose(int, int, int, int)",
        "void cut(int, int, int, boolean)",
        "void put(int, int, int, int)",
        "void bound(int, int, int, boolean)",
        "void swap(int, int, int, int)",
        "boolean is(int, int)",
        "int ways(int)",
        "int first(int)",
        "int hangs(int)",
        "boolean same(int, int)",
        "int parts(int)",
        "int together(int, int)"
    };

    private static String written(Method m) {
        StringBuilder text = new StringBuilder(m.getReturnType() + " " + m.getName() + "(");
        for (int i = 0; i < m.getParameterCount(); i++) {
            text.append(i == 0 ? "" : ", ").append(m.getParameterTypes()[i]);
        }
        return text.append(")").toString();
    }

    /** Each call tells the exceptions that the document writes behind it. */
    private static void declared(Check check, Method m) {
        Set<Class<?>> due = new HashSet<>(Set.of(IllegalArgumentException.class));
        if (m.getName().equals("first")) {
            due.add(NoSuchElementException.class);
        }
        Set<Class<?>> told = new HashSet<>(Arrays.asList(m.getExceptionTypes()));
        check.isTrue(m.getName() + " tells " + told, told.equals(due));
    }

    public static void main(String[] args) {
        Check check = new Check();
        Class<?> face = DiagramBench.class;
        check.isTrue("public", Modifier.isPublic(face.getModifiers()));
        check.isTrue("final", Modifier.isFinal(face.getModifiers()));
        Set<String> open = new TreeSet<>();
        Set<String> openNames = new HashSet<>();
        for (Method m : face.getDeclaredMethods()) {
            if (!Modifier.isPrivate(m.getModifiers())) {
                check.isTrue(m + " is public and of objects", m.getModifiers() == Modifier.PUBLIC);
                declared(check, m);
                open.add(written(m));
                openNames.add(m.getName());
            }
        }
        check.isTrue("methods are " + open, open.equals(new TreeSet<>(Arrays.asList(DUE))));
        for (Method m : face.getDeclaredMethods()) {
            check.isFalse(m + " bears a public name", Modifier.isPrivate(m.getModifiers()) && openNames.contains(m.getName()));
        }
        for (Field f : face.getDeclaredFields()) {
            check.isTrue(f + " is private", Modifier.isPrivate(f.getModifiers()));
        }
        Constructor<?>[] made = face.getDeclaredConstructors();
        check.equal("constructors", made.length, 1);
        check.isTrue("the constructor is public", Modifier.isPublic(made[0].getModifiers()));
        check.equal("the constructor's parameters", made[0].getParameterCount(), 0);
        check.end();
    }
}
