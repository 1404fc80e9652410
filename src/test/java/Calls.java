import java.lang.reflect.InvocationTargetException;
import java.lang.reflect.Method;
import java.lang.reflect.Modifier;
import java.util.Arrays;
import java.util.HashMap;
import java.util.Map;

/** Calls by their names, the same ones on the class and on its model. */
final class Calls {
    private static final Map<Class<?>, Map<String, Method>> KNOWN = new HashMap<>();

    private Calls() {
    }

    static long ask(Object x, String name, int... arguments) {
        Method method = KNOWN.computeIfAbsent(x.getClass(), Calls::methods).get(name);
        if (method == null) {
            throw new IllegalArgumentException("no call " + name);
        }
        try {
            Object[] boxed = Arrays.stream(arguments).boxed().toArray();
            return ((Number) method.invoke(x, boxed)).longValue();
        } catch (InvocationTargetException | IllegalAccessException e) {
            throw new IllegalStateException(name + Arrays.toString(arguments), e);
        }
    }

    private static Map<String, Method> methods(Class<?> of) {
        Map<String, Method> all = new HashMap<>();
        for (Method method : of.getDeclaredMethods()) {
            if (!Modifier.isPrivate(method.getModifiers()) && !method.isSynthetic()) {
                all.put(method.getName(), method);
            }
        }
        return all;
    }
}
