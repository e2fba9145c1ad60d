import java.lang.reflect.InvocationTargetException;
import java.lang.reflect.Method;

/** Every call with every border of its arguments, on a new object, a full one and one made from texts: none throws. */
public final class WildTest {
    private static final Check check = new Check("WildTest");
    private static final int[] BORDERS = {
        Integer.MIN_VALUE, -100001, -100000, -1, 0, 1, 5, 127, 4000, 100000, 100001, Integer.MAX_VALUE,
    };
    private static final int CALLS = 500;

    public static void main(String[] args) throws ReflectiveOperationException {
        for (Method method : Calls.all()) {
            for (int setup = 0; setup < 3; setup++) {
                tryAll(method, setup);
            }
        }
        check.end();
    }

    private static EclipseWheel make(int setup) {
        EclipseWheel x = new EclipseWheel();
        if (setup == 1) {
            for (int i = 0; i < 6; i++) {
                x.wheel(i % 5, 100000 - i * 19999, 99999, i);
            }
            x.bind(4, 5);
            x.image();
            x.tray(0, 0, 12);
            x.tray(1, 4, 12);
            x.like(2, 0);
            x.list(0, 40);
            x.list(1, 0);
        }
        if (setup == 2) {
            Check.read(x, "g99999/2;g99999/100000;n1;a0;o99999;i0");
            x.feed(';');
            x.rule(3, 100000);
            x.rule(4, 1);
            x.rule(5, 1);
            x.list(2, 40);
            x.tray(3, 2, 0);
        }
        return x;
    }

    private static void tryAll(Method method, int setup) throws ReflectiveOperationException {
        EclipseWheel x = make(setup);
        int calls = 0;
        for (Object[] arguments : Calls.rows(method, BORDERS)) {
            calls++;
            if (calls % (CALLS - 100) == 0) {
                x = make(setup);
            }
            try {
                method.invoke(x, arguments);
            } catch (InvocationTargetException e) {
                check.due(Calls.told(method, arguments) + " threw " + e.getCause(), 1, 0);
            }
            check.due("standing", 0, 0);
        }
    }
}
