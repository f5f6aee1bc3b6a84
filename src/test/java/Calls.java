import java.lang.reflect.InvocationTargetException;
import java.lang.reflect.Method;
import java.lang.reflect.Modifier;
import java.util.Arrays;
import java.util.Map;
import java.util.TreeMap;

/** Calls by their names, so that a table can tell them. */
final class Calls {
    private static final Map<String, Method> BY_NAME = byName();

    private Calls() {
    }

    private static Map<String, Method> byName() {
        Map<String, Method> all = new TreeMap<>();
        for (Method m : DoorKeepsQuarrel.class.getDeclaredMethods()) {
            if (Modifier.isPublic(m.getModifiers())) {
                all.put(m.getName(), m);
            }
        }
        return all;
    }

    static long ask(DoorKeepsQuarrel x, String name, int... args) {
        Object[] given = Arrays.stream(args).boxed().toArray();
        try {
            return ((Number) BY_NAME.get(name).invoke(x, given)).longValue();
        } catch (InvocationTargetException e) {
            throw new IllegalStateException(told(name, args) + " threw " + e.getCause(), e);
        } catch (IllegalAccessException e) {
            throw new IllegalStateException(e);
        }
    }

    static String told(String name, int... args) {
        String list = Arrays.toString(args);
        return name + "(" + list.substring(1, list.length() - 1) + ")";
    }

    /** How many calls the face has. */
    static int many() {
        return BY_NAME.size();
    }
}
