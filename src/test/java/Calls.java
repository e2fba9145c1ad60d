import java.lang.reflect.Method;
import java.lang.reflect.Modifier;
import java.util.ArrayList;
import java.util.Arrays;
import java.util.Comparator;
import java.util.List;

/** The calls of the face, by name, and rows of arguments for them. */
final class Calls {
    private Calls() {
    }

    /** In the order of their names: the machine tells methods in no fixed order. */
    static List<Method> all() {
        List<Method> calls = new ArrayList<>();
        for (Method m : EclipseWheel.class.getDeclaredMethods()) {
            if (Modifier.isPublic(m.getModifiers())) {
                calls.add(m);
            }
        }
        calls.sort(Comparator.comparing(Method::getName));
        return calls;
    }

    static Method named(String name) {
        for (Method m : all()) {
            if (m.getName().equals(name)) {
                return m;
            }
        }
        throw new IllegalArgumentException(name);
    }

    /** All of the borders for the first two arguments; a third of them for the others, or there would be millions. */
    static List<Object[]> rows(Method method, int[] borders) {
        Class<?>[] types = method.getParameterTypes();
        List<Object[]> rows = new ArrayList<>();
        rows.add(new Object[0]);
        for (int i = 0; i < types.length; i++) {
            List<Object[]> longer = new ArrayList<>();
            for (Object[] row : rows) {
                for (int b = 0; b < borders.length; b += i < 2 ? 1 : 3) {
                    Object[] next = Arrays.copyOf(row, i + 1);
                    next[i] = boxed(types[i], borders[b]);
                    longer.add(next);
                }
            }
            rows = longer;
        }
        return rows;
    }

    static Object boxed(Class<?> type, long value) {
        return type == long.class ? (Object) value : (Object) (int) value;
    }

    static String told(Method method, Object[] arguments) {
        StringBuilder told = new StringBuilder(method.getName());
        for (Object argument : arguments) {
            told.append(" ").append(argument);
        }
        return told.toString();
    }
}
