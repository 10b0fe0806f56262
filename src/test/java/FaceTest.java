import java.lang.reflect.Constructor;
import java.lang.reflect.Field;
import java.lang.reflect.Method;
import java.lang.reflect.Modifier;
import java.util.Arrays;
import java.util.TreeSet;

/** The public face of the document, and rules 1 and 5 of the language: nothing else can be seen, nothing static changes. */
public final class FaceTest {
    private static final String[] FACE = {
        "int berg(int, int) IndexOutOfBoundsException NoSuchElementException",
        "boolean cancel(int) IndexOutOfBoundsException",
        "int corner(int, boolean)",
        "int count(int)",
        "boolean end(int)",
        "int fault()",
        "int feed(int, int, int, int, int)",
        "int flight()",
        "boolean force(int, int) IndexOutOfBoundsException",
        "void land(int, boolean) IndexOutOfBoundsException IllegalStateException",
        "int limit()",
        "int look(int, int) IndexOutOfBoundsException IllegalArgumentException",
        "int parts(int, int) IndexOutOfBoundsException",
        "int read() IllegalArgumentException UnsupportedOperationException",
        "int step(int) IllegalArgumentException",
        "int taped(int)",
        "int tell(int, int) IndexOutOfBoundsException IllegalArgumentException UnsupportedOperationException",
        "int warn()",
        "void water(int, int, int, int) IndexOutOfBoundsException IllegalArgumentException",
        "int way(int, int, int) IndexOutOfBoundsException",
        "int write(int) IndexOutOfBoundsException",
    };

    public static void main(String[] args) throws Exception {
        Class<?> c = BergPatrol.class;
        Check.same("the class is public and final", c.getModifiers(), Modifier.PUBLIC | Modifier.FINAL);
        Check.same("NONE", BergPatrol.NONE, -1);
        methods(c);
        fields(c);
        constructors(c);
        inside(c);
        Check.end();
    }

    private static String told(Method m) {
        StringBuilder s = new StringBuilder(m.getReturnType().getName()).append(' ').append(m.getName()).append('(');
        for (int i = 0; i < m.getParameterCount(); i++) {
            s.append(i > 0 ? ", " : "").append(m.getParameterTypes()[i].getName());
        }
        s.append(')');
        for (Class<?> e : m.getExceptionTypes()) {
            s.append(' ').append(e.getSimpleName());
        }
        return s.toString();
    }

    private static void methods(Class<?> c) {
        TreeSet<String> got = new TreeSet<>();
        TreeSet<String> names = new TreeSet<>();
        for (Method m : c.getDeclaredMethods()) {
            if (m.getModifiers() == Modifier.PUBLIC) {
                got.add(told(m));
                names.add(m.getName());
            }
        }
        Check.same("the face", String.join("\n", got), String.join("\n", new TreeSet<>(Arrays.asList(FACE))));
        for (Method m : c.getDeclaredMethods()) {
            if (m.getModifiers() != Modifier.PUBLIC) {
                Check.same(m.getName() + " is private", Modifier.isPrivate(m.getModifiers()), true);
                Check.same(m.getName() + " bears a public name", names.contains(m.getName()), false);
            }
        }
        for (Class<?> inside : c.getDeclaredClasses()) {
            for (Method m : inside.getDeclaredMethods()) {
                Check.same(m.getName() + " inside bears a public name", names.contains(m.getName()), false);
            }
        }
    }

    private static void fields(Class<?> c) {
        for (Field f : c.getDeclaredFields()) {
            boolean face = f.getName().equals("NONE");
            int due = Modifier.PUBLIC | Modifier.STATIC | Modifier.FINAL;
            Check.same(f.getName(), face ? f.getModifiers() == due : Modifier.isPrivate(f.getModifiers()), true);
            if (Modifier.isStatic(f.getModifiers())) {
                Check.same(f.getName() + " is final", Modifier.isFinal(f.getModifiers()), true);
            }
        }
    }

    private static void constructors(Class<?> c) {
        Constructor<?>[] all = c.getDeclaredConstructors();
        Check.same("constructors", all.length, 1);
        Check.same("parameters", all[0].getParameterCount(), 0);
        Check.same("public", all[0].getModifiers(), Modifier.PUBLIC);
    }

    private static void inside(Class<?> c) {
        Class<?>[] all = c.getDeclaredClasses();
        Check.same("some twelve classes at most", all.length <= 11, true);
        for (Class<?> inside : all) {
            boolean hidden = !Modifier.isPublic(inside.getModifiers()) && !Modifier.isProtected(inside.getModifiers());
            Check.same(inside.getName() + " is hidden", hidden, true);
            Check.same(inside.getName() + " is static", Modifier.isStatic(inside.getModifiers()), true);
            for (Field f : inside.getDeclaredFields()) {
                Check.same(f.getName() + " is not static", Modifier.isStatic(f.getModifiers()), false);
            }
        }
    }
}
