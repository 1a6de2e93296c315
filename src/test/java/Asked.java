import java.lang.reflect.InvocationTargetException;
import java.lang.reflect.Method;
import java.util.HashMap;
import java.util.Map;

/** A NarrowBox whose calls are asked by name and counted: the document promises 512 of them. */
final class Asked {
    private static final Map<String, Method> METHODS = new HashMap<>();

    private final NarrowBox x = new NarrowBox();
    private int calls;

    static {
        for (Method m : NarrowBox.class.getDeclaredMethods()) {
            METHODS.put(m.getName(), m);
        }
    }

    long ask(String name, long... args) {
        Method m = METHODS.get(name);
        Class<?>[] types = m.getParameterTypes();
        Object[] given = new Object[types.length];
        for (int i = 0; i < types.length; i++) {
            given[i] = types[i] == long.class ? (Object) args[i] : (Object) Math.toIntExact(args[i]);
        }
        calls++;
        try {
            return ((Number) m.invoke(x, given)).longValue();
        } catch (IllegalAccessException | InvocationTargetException e) {
            throw new IllegalStateException(name, e);
        }
    }

    /** Asks what has to be taken, while an object is made ready. */
    void tell(String name, long... args) {
        long answer = ask(name, args);
        if (answer < -1 && answer != NarrowBox.NOT || answer == -1 && !name.equals("wire")) {
            throw new IllegalStateException(name + java.util.Arrays.toString(args) + " answered " + answer);
        }
    }

    void feed(String text) {
        for (int at = 0; at < text.length(); at += 4) {
            int n = Math.min(4, text.length() - at);
            int v = 0;
            for (int i = 0; i < n; i++) {
                v |= (text.charAt(at + i) & 255) << 8 * i;
            }
            tell("feed", n, v);
        }
    }

    void program(int box, String text) {
        feed(text);
        tell("program", box);
    }

    int calls() {
        return calls;
    }
}
