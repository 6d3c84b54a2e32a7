import java.lang.reflect.InvocationTargetException;
import java.lang.reflect.Method;
import java.util.ArrayList;
import java.util.Arrays;
import java.util.List;

/** A call of the public face, told by its name and arguments, that can be made on any object. */
record Call(Method method, Object[] arguments) {
    /** The row of wish() is given as a long, all other numbers as ints. */
    static Call of(String name, Object... arguments) {
        for (Method method : ServantRegistry.class.getMethods()) {
            if (method.getName().equals(name) && method.getParameterCount() == arguments.length) {
                return new Call(method, arguments);
            }
        }
        throw new IllegalArgumentException(name);
    }

    /** A boolean answer counts 1 or 0. */
    long on(ServantRegistry r) {
        try {
            Object answer = method.invoke(r, arguments);
            if (answer instanceof Boolean yes) {
                return yes ? 1 : 0;
            }
            return ((Number) answer).longValue();
        } catch (IllegalAccessException | InvocationTargetException thrown) {
            throw new IllegalStateException(toString(), thrown);
        }
    }

    /** The calls that put a text on the tape, with blanks behind it up to the next twenty bytes. */
    static List<Call> feeds(String text) {
        List<Call> calls = new ArrayList<>();
        for (int at = 0; at < text.length(); at += 20) {
            Object[] five = {0, 0, 0, 0, 0};
            for (int i = 0; i < 20; i++) {
                int b = at + i < text.length() ? text.charAt(at + i) : ' ';
                five[i / 4] = (Integer) five[i / 4] << 8 | b;
            }
            calls.add(of("feed", five));
        }
        return calls;
    }

    Call with(int argument, Object value) {
        Object[] changed = arguments.clone();
        changed[argument] = value;
        return new Call(method, changed);
    }

    @Override
    public String toString() {
        return method.getName() + Arrays.toString(arguments);
    }
}
