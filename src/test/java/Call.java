import java.lang.reflect.Method;
import java.util.Arrays;
import java.util.HashMap;
import java.util.Map;

/** Calls by their names, so that a test tells a call and its numbers once. */
final class Call {
    private static final Map<String, Method> METHODS = new HashMap<>();

    private Call() {
    }

    static long answer(Object x, String name, int... numbers) {
        Method method = METHODS.computeIfAbsent(x.getClass().getName() + "." + name, key -> find(x, name, numbers.length));
        try {
            return ((Number) method.invoke(x, Arrays.stream(numbers).boxed().toArray())).longValue();
        } catch (ReflectiveOperationException e) {
            throw new IllegalStateException(told(name, numbers), e);
        }
    }

    static String told(String name, int... numbers) {
        String list = Arrays.toString(numbers);
        return name + "(" + list.substring(1, list.length() - 1) + ")";
    }

    private static Method find(Object x, String name, int count) {
        Class<?>[] types = new Class<?>[count];
        Arrays.fill(types, int.class);
        try {
            return x.getClass().getMethod(name, types);
        } catch (NoSuchMethodException e) {
            throw new IllegalStateException(e);
        }
    }
}
