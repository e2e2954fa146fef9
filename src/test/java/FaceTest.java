import java.lang.reflect.Constructor;
import java.lang.reflect.Executable;
import java.lang.reflect.Field;
import java.lang.reflect.Method;
import java.lang.reflect.Modifier;
import java.util.Arrays;
import java.util.HashSet;
import java.util.List;
import java.util.Set;
import java.util.TreeSet;

/** The public face: just the members of the document, and nothing else to be seen. */
public final class FaceTest {
    private static final Check CHECK = new Check("The face");
    private static final List<Class<?>> EXCEPTIONS = List.of(IndexOutOfBoundsException.class,
        IllegalArgumentException.class, IllegalStateException.class);

    public static void main(String[] args) {
        CHECK.test("the methods of the document, and no other", FaceTest::dueMethods);
        CHECK.test("no exception is declared that the document does not name", FaceTest::dueExceptions);
        CHECK.test("the class is public and final, and has one constructor", FaceTest::dueOfTheClass);
        CHECK.test("no field, and no class inside, is to be seen from outside", FaceTest::dueHidden);
        CHECK.test("no hidden method bears the name of a public one", FaceTest::dueHiddenNames);
        CHECK.end();
    }

    private static boolean isHidden(Method m) {
        return m.isSynthetic() || Modifier.isPrivate(m.getModifiers());
    }

    private static void dueMethods() {
        Set<String> want = new TreeSet<>(Arrays.asList("int rock 4", "int dig 2", "int wall 2", "int clear 2",
            "int cell 3", "int carp 2", "int sell 1", "int told 2", "int gate 3", "int about 2", "int invite 1",
            "int lead 2", "int lines 1", "int count 1", "int pass 1", "int foresee 2", "int advise 3",
            "int finest 0", "double mean 0", "long digest 0"));
        Set<String> got = new TreeSet<>();
        for (Method m : MoonGate.class.getDeclaredMethods()) {
            if (!isHidden(m)) {
                got.add(told(m));
                CHECK.due(m.getName() + " is public alone", Modifier.PUBLIC, m.getModifiers());
            }
        }
        CHECK.dueObject("methods", want.toString(), got.toString());
    }

    private static String told(Method m) {
        StringBuilder text = new StringBuilder();
        text.append(m.getReturnType()).append(' ').append(m.getName()).append(' ').append(m.getParameterCount());
        for (Class<?> kind : m.getParameterTypes()) {
            if (kind != int.class) {
                text.append(" of ").append(kind);
            }
        }
        return text.toString();
    }

    private static void dueExceptions() {
        for (Method m : MoonGate.class.getDeclaredMethods()) {
            if (!isHidden(m)) {
                dueExceptionsOf(m);
            }
        }
        for (Constructor<?> constructor : MoonGate.class.getDeclaredConstructors()) {
            CHECK.due("exceptions of the constructor", 0, constructor.getExceptionTypes().length);
        }
    }

    private static void dueExceptionsOf(Executable call) {
        for (Class<?> kind : call.getExceptionTypes()) {
            CHECK.dueObject(call.getName() + " declares " + kind, true, EXCEPTIONS.contains(kind));
        }
    }

    private static void dueOfTheClass() {
        CHECK.due("modifiers", Modifier.PUBLIC | Modifier.FINAL, MoonGate.class.getModifiers());
        Constructor<?>[] constructors = MoonGate.class.getConstructors();
        CHECK.due("public constructors", 1, constructors.length);
        CHECK.due("its parameters", 0, constructors[0].getParameterCount());
        for (Constructor<?> constructor : MoonGate.class.getDeclaredConstructors()) {
            int seen = constructor.getModifiers() & (Modifier.PUBLIC | Modifier.PRIVATE);
            CHECK.dueObject("a constructor is public or private", true, seen != 0);
        }
    }

    private static void dueHidden() {
        for (Field field : MoonGate.class.getDeclaredFields()) {
            CHECK.dueObject("private field " + field.getName(), true,
                field.isSynthetic() || Modifier.isPrivate(field.getModifiers()));
        }
        for (Class<?> inside : MoonGate.class.getDeclaredClasses()) {
            int seen = inside.getModifiers() & (Modifier.PUBLIC | Modifier.PROTECTED);
            CHECK.due("hidden class " + inside.getName(), 0, seen);
        }
        CHECK.due("public fields", 0, MoonGate.class.getFields().length);
    }

    private static void dueHiddenNames() {
        Set<String> names = new HashSet<>();
        for (Method m : MoonGate.class.getMethods()) {
            names.add(m.getName());
        }
        CHECK.dueObject("digest is public", true, names.contains("digest"));
        for (Method m : MoonGate.class.getDeclaredMethods()) {
            CHECK.dueObject("hidden name " + m.getName(), false, isHidden(m) && names.contains(m.getName()));
        }
    }
}
