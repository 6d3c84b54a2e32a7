import java.lang.reflect.Constructor;
import java.lang.reflect.Field;
import java.lang.reflect.Method;
import java.lang.reflect.Modifier;
import java.util.ArrayList;
import java.util.Arrays;
import java.util.List;

/** The public face: each name of the document, its arguments and its kind, and none besides. */
public final class FaceTest {
    private static final String[] METHODS = {
        "boolean day(int)",
        "int servant(int, int, int, int)",
        "int house(int)",
        "boolean lag(int, int)",
        "int place(int, int, int, int, int, int)",
        "int placing(int, int, int)",
        "boolean leave(int, int, int, int)",
        "boolean undo(int)",
        "int in(int, int, int)",
        "int holder(int, int, int)",
        "int twice(int, int, int)",
        "int placed(int, int)",
        "int wages(int, int, int)",
        "int feed(int, int, int, int, int)",
        "int rules(int)",
        "int fault()",
        "int law(int, int)",
        "int fit(int, int, int)",
        "int write(int, int, int, int, int)",
        "int written(int, int)",
        "int isFalse(int, int)",
        "int habit(int, int)",
        "int wish(int, int, long)",
        "int dealt(int)",
        "boolean tell(int, int)",
        "int judge()",
        "int steps(int, int, int)",
        "int clear()",
        "int empty(int, int)",
        "int free(int, int)",
        "int chain(int)",
        "int ask(int, int, boolean)",
        "int like(int, int)",
        "int box(int, int)",
        "int leftMore(int)",
        "int count(int)",
    };

    public static void main(String[] args) throws IllegalAccessException {
        Class<?> face = ServantRegistry.class;
        Check.due("public", Modifier.isPublic(face.getModifiers()), true);
        Check.due("final", Modifier.isFinal(face.getModifiers()), true);
        Check.due("of no other class", face.getSuperclass() == Object.class, true);
        Check.due("interfaces", face.getInterfaces().length, 0);
        Check.due("without a package", face.getPackageName().isEmpty(), true);
        constants(face);
        constructors(face);
        methods(face);
        for (Class<?> inside : face.getDeclaredClasses()) {
            Check.due("hidden: " + inside, Modifier.isPublic(inside.getModifiers()), false);
        }
        Check.end();
    }

    private static void constants(Class<?> face) throws IllegalAccessException {
        int seen = 0;
        for (Field f : face.getDeclaredFields()) {
            if (Modifier.isPrivate(f.getModifiers())) {
                continue;
            }
            seen++;
            boolean constant = f.getModifiers() == (Modifier.PUBLIC | Modifier.STATIC | Modifier.FINAL);
            Check.due(f + " is NONE", constant && f.getName().equals("NONE") && f.getType() == int.class, true);
            Check.due(f.toString(), constant ? f.getInt(null) : 0, -1);
        }
        Check.due("constants", seen, 1);
    }

    private static void constructors(Class<?> face) {
        Constructor<?>[] all = face.getDeclaredConstructors();
        Check.due("constructors", all.length, 1);
        for (Constructor<?> c : all) {
            Check.due(c.toString(), c.getParameterCount() == 0 && Modifier.isPublic(c.getModifiers()), true);
        }
    }

    private static void methods(Class<?> face) {
        List<String> asked = new ArrayList<>(Arrays.asList(METHODS));
        for (Method m : face.getDeclaredMethods()) {
            if (Modifier.isPrivate(m.getModifiers())) {
                continue;
            }
            Check.due("public and of an object: " + m, m.getModifiers(), Modifier.PUBLIC);
            Check.due("thrown by " + m, m.getExceptionTypes().length, 0);
            Check.due("asked for: " + m, asked.remove(headOf(m)), true);
        }
        for (String missing : asked) {
            Check.due("there: " + missing, false, true);
        }
    }

    private static String headOf(Method m) {
        List<String> kinds = new ArrayList<>();
        for (Class<?> kind : m.getParameterTypes()) {
            kinds.add(kind.getName());
        }
        return m.getReturnType().getName() + " " + m.getName() + "(" + String.join(", ", kinds) + ")";
    }
}
