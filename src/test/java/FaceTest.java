import java.lang.reflect.Constructor;
import java.lang.reflect.Field;
import java.lang.reflect.Method;
import java.lang.reflect.Modifier;
import java.util.Arrays;
import java.util.List;
import java.util.Set;
import java.util.TreeSet;

/** The public face as the document has it, and the limits of LANGUAGE.md that reflection can see. */
final class FaceTest {
    private static final Set<String> FACE = new TreeSet<>(List.of(
        "int add(int, int) IllegalArgumentException IllegalStateException",
        "boolean begin(int, int, boolean) IllegalArgumentException",
        "int run(int) IllegalArgumentException IllegalStateException",
        "int clear()",
        "int local(int) IndexOutOfBoundsException",
        "int top(int) IndexOutOfBoundsException",
        "int outs()",
        "int out(int) IndexOutOfBoundsException",
        "int count(int) IndexOutOfBoundsException",
        "int place(int, int) IndexOutOfBoundsException",
        "int trace(int, int) IndexOutOfBoundsException"));

    public static void main(String[] args) {
        Class<?> face = TraceTier.class;
        Due.test("public final class TraceTier", () -> Due.isTrue("public and final",
            face.getModifiers() == (Modifier.PUBLIC | Modifier.FINAL)));
        Due.test("The public face: its methods, and no others", () -> methods(face));
        Due.test("The public face: NONE, and no other field", () -> fields(face));
        Due.test("public TraceTier();", () -> constructor(face));
        Due.test("LANGUAGE.md: the classes inside", () -> classes(face));
        Due.finish();
    }

    private static void constructor(Class<?> face) {
        Constructor<?>[] constructors = face.getDeclaredConstructors();
        Due.same("constructors", constructors.length, 1);
        Due.isTrue("the constructor is public and takes nothing",
            Modifier.isPublic(constructors[0].getModifiers()) && constructors[0].getParameterCount() == 0);
    }

    private static void classes(Class<?> face) {
        Due.isTrue("at most twelve classes", face.getDeclaredClasses().length + 1 <= 12);
        for (Class<?> inside : face.getDeclaredClasses()) {
            inside(face, inside);
        }
    }

    private static String told(Method m) {
        StringBuilder text = new StringBuilder(m.getReturnType().getName());
        text.append(' ').append(m.getName()).append('(');
        for (Class<?> p : m.getParameterTypes()) {
            text.append(text.charAt(text.length() - 1) == '(' ? "" : ", ").append(p.getName());
        }
        text.append(')');
        for (Class<?> e : m.getExceptionTypes()) {
            text.append(' ').append(e.getSimpleName());
        }
        return text.toString();
    }

    private static void methods(Class<?> face) {
        Set<String> found = new TreeSet<>();
        for (Method m : face.getDeclaredMethods()) {
            if (!Modifier.isPrivate(m.getModifiers())) {
                Due.isTrue(told(m) + " is public", m.getModifiers() == Modifier.PUBLIC);
                found.add(told(m));
            } else {
                Due.isTrue(m.getName() + " bears no public name", !isPublicName(face, m.getName()));
            }
        }
        Due.isTrue("the methods " + found, found.equals(FACE));
    }

    private static boolean isPublicName(Class<?> face, String name) {
        return Arrays.stream(face.getDeclaredMethods())
            .anyMatch(m -> Modifier.isPublic(m.getModifiers()) && m.getName().equals(name));
    }

    private static void fields(Class<?> face) {
        int own = 0;
        for (Field f : face.getDeclaredFields()) {
            boolean isStatic = Modifier.isStatic(f.getModifiers());
            boolean isPublic = Modifier.isPublic(f.getModifiers());
            Due.isTrue(f.getName() + " is private", isPublic == f.getName().equals("NONE")
                && isPublic != Modifier.isPrivate(f.getModifiers()));
            Due.isTrue(f.getName() + ": a static field is final", !isStatic || Modifier.isFinal(f.getModifiers()));
            own += isStatic ? 0 : 1;
        }
        Due.isTrue("at most twenty fields", own <= 20);
    }

    private static void inside(Class<?> face, Class<?> inside) {
        String name = inside.getSimpleName();
        Due.isTrue(name + " is static and not public",
            Modifier.isStatic(inside.getModifiers()) && !Modifier.isPublic(inside.getModifiers()));
        Due.isTrue(name + " has at most twenty fields", inside.getDeclaredFields().length <= 20);
        for (Field f : inside.getDeclaredFields()) {
            Due.isTrue(name + "." + f.getName() + " is no static state", !Modifier.isStatic(f.getModifiers()));
        }
        for (Method m : inside.getDeclaredMethods()) {
            Due.isTrue(name + "." + m.getName() + " bears no public name", !isPublicName(face, m.getName()));
            Due.isTrue(name + "." + m.getName() + " takes at most seven", m.getParameterCount() <= 7);
        }
    }
}
