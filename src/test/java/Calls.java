import java.lang.reflect.Method;
import java.lang.reflect.Modifier;
import java.util.Arrays;
import java.util.HashMap;
import java.util.Map;

/** Calls of a class by their names, so that runs can be written down as texts. */
final class Calls {
    private final Class<?> type;
    private final Map<String, Method> methods = new HashMap<>();

    Calls(Class<?> type) {
        this.type = type;
        for (Method m : type.getDeclaredMethods()) {
            if (Modifier.isPublic(m.getModifiers())) {
                methods.put(m.getName(), m);
            }
        }
    }

    long answer(Object room, String name, int... args) {
        Method m = methods.get(name);
        if (m == null || m.getParameterCount() != args.length) {
            throw new IllegalArgumentException("there is no " + name + Arrays.toString(args));
        }
        try {
            return ((Number) m.invoke(room, Arrays.stream(args).boxed().toArray())).longValue();
        } catch (ReflectiveOperationException e) {
            throw new IllegalStateException(name + Arrays.toString(args), e);
        }
    }

    long constant(String name) {
        try {
            return ((Number) type.getField(name).get(null)).longValue();
        } catch (ReflectiveOperationException e) {
            throw new IllegalStateException(name, e);
        }
    }
}
