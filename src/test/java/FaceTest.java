import java.lang.reflect.Constructor;
import java.lang.reflect.Field;
import java.lang.reflect.Method;
import java.lang.reflect.Modifier;
import java.util.Arrays;
import java.util.HashSet;
import java.util.Set;
import java.util.TreeSet;

/** The public face: just the members of the document, each with its exceptions, and nothing else to be seen. */
public final class FaceTest {
    private static final Check CHECK = new Check("The face");
    private static final String O = "IndexOutOfBoundsException";
    private static final String A = "IllegalArgumentException";
    private static final String S = "IllegalStateException";

    public static void main(String[] args) {
        CHECK.test("the methods of the document, each with its exceptions, and no other", FaceTest::dueMethods);
        CHECK.test("the class, its constructor, fields and classes inside", FaceTest::dueOfTheClass);
        CHECK.test("no hidden method bears the name of a public one", FaceTest::duePrivateNames);
        CHECK.end();
    }

    private static void dueMethods() {
        Set<String> want = new TreeSet<>(Arrays.asList(
            "int rock 4 " + O + " " + A + " " + S,
            "int dig 2 " + O + " " + S,
            "int wall 2 " + O + " " + S,
            "int clear 2 " + O + " " + S,
            "int cell 3 " + O,
            "int carp 2 " + O + " " + S,
            "int sell 1 " + O + " " + S,
            "int told 2 " + O,
            "int gate 3 " + O + " " + A + " " + S,
            "int about 2 " + O,
            "int invite 1 " + O + " " + S,
            "int lead 2 " + O,
            "int lines 1 " + O,
            "int count 1 " + O,
            "int pass 1 " + A,
            "int foresee 2 " + A + " " + O,
            "int advise 3 " + O + " " + A,
            "int finest 0",
            "double mean 0",
            "long digest 0"));
        Set<String> got = new TreeSet<>();
        for (Method m : MoonGate.class.getDeclaredMethods()) {
            if (!Modifier.isPrivate(m.getModifiers())) {
                got.add(told(m));
            }
        }
        CHECK.dueObject("methods", want.toString(), got.toString());
    }

    private static String told(Method m) {
        StringBuilder text = new StringBuilder();
        text.append(m.getReturnType()).append(' ').append(m.getName()).append(' ').append(m.getParameterCount());
        for (Class<?> kind : m.getExceptionTypes()) {
            text.append(' ').append(kind.getSimpleName());
        }
        for (Class<?> kind : m.getParameterTypes()) {
            if (kind != int.class) {
                text.append(" of ").append(kind);
            }
        }
        return text.toString();
    }

    private static void dueOfTheClass() {
        Class<?> face = MoonGate.class;
        CHECK.dueObject("modifiers", Modifier.PUBLIC | Modifier.FINAL, face.getModifiers());
        Constructor<?>[] constructors = face.getDeclaredConstructors();
        CHECK.dueObject("constructors", 1, constructors.length);
        CHECK.dueObject("parameters", 0, constructors[0].getParameterCount());
        CHECK.dueObject("constructor", Modifier.PUBLIC, constructors[0].getModifiers());
        for (Field field : face.getDeclaredFields()) {
            CHECK.dueObject("private field " + field.getName(), true, Modifier.isPrivate(field.getModifiers()));
        }
        for (Class<?> inside : face.getDeclaredClasses()) {
            CHECK.dueObject("static class " + inside.getName(), true, Modifier.isStatic(inside.getModifiers()));
            CHECK.dueObject("hidden class " + inside.getName(), false, Modifier.isPublic(inside.getModifiers()));
        }
    }

    private static void duePrivateNames() {
        Set<String> names = new HashSet<>();
        for (Method m : MoonGate.class.getMethods()) {
            names.add(m.getName());
        }
        for (Method m : MoonGate.class.getDeclaredMethods()) {
            CHECK.dueObject("own name " + m.getName(), false,
                Modifier.isPrivate(m.getModifiers()) && names.contains(m.getName()));
        }
        for (Class<?> inside : MoonGate.class.getDeclaredClasses()) {
            for (Method m : inside.getDeclaredMethods()) {
                CHECK.dueObject("own name " + m.getName(), false, names.contains(m.getName()));
            }
        }
    }
}
