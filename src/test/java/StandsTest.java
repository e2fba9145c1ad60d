import java.lang.reflect.InvocationTargetException;
import java.lang.reflect.Method;
import java.util.Arrays;
import java.util.Set;

/**
 * Term 6: "What is answered so changes nothing (THE TAPE, as told, apart); what is asked changes nothing." Every call that
 * asks, and every one that is refused, is made on an object of its own, and all that can be told of it afterwards must be
 * what is told of an object without that call.
 */
public final class StandsTest {
    private static final Check check = new Check("StandsTest");
    private static final int[] BORDERS = {-100001, -2, -1, 0, 1, 2, 3, 6, 13, 41, 128, 100001};
    private static final Set<String> CHANGING = Set.of("wheel", "turn", "drop", "bind", "rule", "feed", "read", "tray", "lay",
        "like", "list", "put", "fill", "image", "undo");
    private static final int SETUPS = 4;

    public static void main(String[] args) throws ReflectiveOperationException {
        long[][] untouched = new long[SETUPS][];
        for (int setup = 0; setup < SETUPS; setup++) {
            untouched[setup] = told(make(setup));
        }
        for (Method method : Calls.all()) {
            for (int setup = 0; setup < SETUPS; setup++) {
                tryAll(method, setup, untouched[setup]);
            }
        }
        faultsEmptyTheTapeAlone();
        check.end();
    }

    /** 0: nothing at all; 1: some of all; 2: as full as can be; 3: some of all, no image. */
    private static EclipseWheel make(int setup) {
        EclipseWheel x = new EclipseWheel();
        if (setup == 0) {
            return x;
        }
        for (int kind = 0; kind < 5; kind++) {
            x.wheel(kind, 20 + kind, 1, kind % 2);
        }
        x.rule(0, 3);
        x.rule(1, 1);
        x.bind(0, 1);
        if (setup != 3) {
            x.image();
        }
        x.turn(0, 3, 2);
        x.bind(1, 4);
        x.rule(3, 61);
        x.tray(0, 0, 12);
        x.tray(1, 2, 2);
        x.tray(2, 1, 0);
        x.lay(0, 0, 0);
        x.lay(0, 1, 4);
        x.lay(1, 1, 2);
        x.list(0, 3);
        x.put(0, 1, 77);
        x.list(1, 0);
        String text = "o7;i2";
        if (setup == 2) {
            x.wheel(0, 5, 1, 0);
            x.tray(3, 4, 12);
            x.list(2, 40);
            x.fill(2, 0);
            text = "i02;".repeat(19) + "o007";
        }
        for (int i = 0; i < text.length(); i++) {
            x.feed(text.charAt(i));
        }
        return x;
    }

    /** All that can be told in the calls that are left; what changes the object is asked last. */
    private static long[] told(EclipseWheel x) {
        long[] all = new long[500];
        int n = 0;
        for (int what = 0; what <= 10; what++) {
            all[n++] = x.count(what);
        }
        n = wheelsTold(x, all, n);
        for (int tray = 0; tray < 4; tray++) {
            for (int place = 0; place < 12; place++) {
                all[n++] = x.laid(tray, place, 1);
            }
            all[n++] = x.laid(tray, 0, 2);
            all[n++] = x.laid(tray, 1, 3);
        }
        for (int list = 0; list < 3; list++) {
            for (int i = 0; i < 40; i++) {
                all[n++] = x.get(list, i);
            }
        }
        all[n++] = x.date(7, 0);
        all[n++] = x.spell(0);
        all[n++] = x.paper(0, 4);
        all[n++] = x.gap(0, 2, 0);
        all[n++] = x.judge(0, 0);
        all[n++] = x.record(1, 0);
        all[n++] = x.roll(0, 30, 2, 0);
        all[n++] = x.read();
        all[n++] = x.count(5);
        all[n++] = x.count(6);
        for (int tray = 0; tray < 4; tray++) {
            for (int wheel = 0; wheel < 5; wheel++) {
                all[n++] = x.lay(tray, 0, wheel);
            }
        }
        all[n++] = x.undo();
        for (int what = 0; what <= 10; what++) {
            all[n++] = x.count(what);
        }
        return Arrays.copyOf(all, wheelsTold(x, all, n));
    }

    private static int wheelsTold(EclipseWheel x, long[] all, int from) {
        int n = from;
        for (int wheel = 0; wheel < 6; wheel++) {
            for (int what = 0; what < 5; what++) {
                all[n++] = x.of(wheel, what);
            }
            all[n++] = x.at(wheel, 7);
        }
        return n;
    }

    private static void tryAll(Method method, int setup, long[] untouched) throws ReflectiveOperationException {
        boolean changing = CHANGING.contains(method.getName());
        for (Object[] arguments : Calls.rows(method, BORDERS)) {
            EclipseWheel x = make(setup);
            long answer;
            try {
                answer = ((Number) method.invoke(x, arguments)).longValue();
            } catch (InvocationTargetException e) {
                check.due(Calls.told(method, arguments) + " threw " + e.getCause(), 1, 0);
                continue;
            }
            boolean refused = changing && answer < 0;
            boolean fault = method.getName().equals("read");
            if (!fault && (refused || !changing)) {
                boolean same = Arrays.equals(told(x), untouched);
                check.due(Calls.told(method, arguments) + ", answered " + answer + " in setup " + setup + ", changes nothing",
                    same ? 1 : 0, 1);
            }
        }
    }

    // Promise 34: "THE TAPE, which is empty then (by a FAULT, too)": all else stands.
    private static void faultsEmptyTheTapeAlone() {
        String[] texts = {"", "x", "o9;", "o9;i8;w5/9;n0;a0;", "o9;i8;w5/9;n0;a9", "n9", "o9;o100000", "w1/2+2", "o1;w"};
        for (String text : texts) {
            for (int setup = 0; setup < SETUPS; setup++) {
                EclipseWheel x = make(setup);
                EclipseWheel other = make(setup);
                x.read();
                other.read();
                check.due("34 read " + text + " is a fault", Check.read(x, text) < 0 ? 1 : 0, 1);
                check.due("34 the fault of " + text + " empties the tape alone", Arrays.equals(told(x), told(other)) ? 1 : 0, 1);
            }
        }
    }
}
