import java.lang.reflect.Method;

/**
 * Every argument of every call that has a least and a greatest number: both are taken, and what is one beyond, a little
 * beyond and far beyond either is refused as the promise words it, the other arguments being as they should.
 */
public final class BordersTest {
    private static final Check check = new Check("BordersTest");
    private static final long[] BEYOND = {1, 2, 7, 20, 4096, 100003, 1L << 31};
    private static final int FIRST = -100000, LAST = 100000;
    /** Beyond all months: a stretch from a to b is told by both, and one beyond of both may be one again. */
    private static final int FAR = 3000000;

    /** An argument: one that is taken, the least and the greatest, and how lesser and greater ones are refused. */
    private record Argument(long taken, long least, long greatest, long refusedBelow, long refusedAbove) {
    }

    private static int rows = 0;

    public static void main(String[] args) throws ReflectiveOperationException {
        wheels();
        eclipses();
        cycles();
        dates();
        rounds();
        traysAndLists();
        rules();
        check.due("all 41 calls that take arguments, wheel for 4 kinds more, rule for 5 rules more", rows, 41 + 4 + 5);
        check.end();
    }

    private static Argument from(long taken, long least, long greatest, long refused) {
        return new Argument(taken, least, greatest, refused, refused);
    }

    private static Argument wheel(long refused) {
        return from(0, 0, 1, refused);
    }

    private static Argument month(long refused) {
        return from(0, FIRST, LAST, refused);
    }

    private static Argument what(int greatest, long refused) {
        return from(0, 0, greatest, refused);
    }

    private static void wheels() throws ReflectiveOperationException {
        for (int kind = 0; kind < 5; kind++) {
            due("2", "wheel", from(kind, 0, 4, Check.BAD), from(5, 2, 100000, Check.BAD), from(1, 0, 99999, Check.BAD),
                from(1, 0, 4, Check.BAD));
        }
        due("3", "of", wheel(Check.NONE), what(4, Check.NONE));
        due("4", "turn", wheel(Check.NONE), from(1, 0, 99999, Check.BAD), from(1, 0, 19, Check.BAD));
        due("6", "at", wheel(Check.NONE), month(Check.BAD));
        due("7", "rounds", wheel(Check.NO), month(Check.NO));
        due("8", "bind", wheel(Check.NONE), from(0, -1, 1, Check.NONE));
    }

    private static void rules() throws ReflectiveOperationException {
        int[] least = {0, 0, 0, 1, 1, 1};
        int[] greatest = {99999, 99999, 99999, 100000, 1000, 400};
        for (int what = 0; what < 6; what++) {
            due("9", "rule", from(what, 0, 5, Check.NONE), from(5, least[what], greatest[what], Check.BAD));
        }
    }

    private static void eclipses() throws ReflectiveOperationException {
        due("10", "eclipse", month(Check.BAD), what(2, Check.BAD));
        due("11", "eclipses", from(0, -3994, 5, Check.BAD), from(5, 0, 3999, Check.BAD), what(3, Check.NONE));
        due("12", "next", month(Check.BAD), what(1, Check.BAD));
        due("13", "family", month(Check.BAD), from(20, 1, 2000, Check.BAD), what(2, Check.BAD));
        due("14", "roll", from(0, -194, 5, Check.BAD), from(5, 0, 199, Check.BAD), from(1, 1, 2000, Check.BAD),
            what(4, Check.BAD));
    }

    private static void cycles() throws ReflectiveOperationException {
        due("15", "drift", from(1, 1, 2000, Check.BAD), what(1, Check.BAD));
        due("16", "records", from(1, 1, 2000, Check.BAD), what(1, Check.BAD));
        // records of a wheel of 20 parts that goes by one: 1 and 20
        dueInOrder("17", "record", new long[] {Check.BAD, Check.NONE}, what(1, Check.NONE), what(1, Check.BAD));
        due("18", "terms", wheel(Check.NONE));
        due("19", "term", wheel(Check.NONE), what(1, Check.NONE));
        due("20", "convergent", wheel(Check.NO), what(1, Check.NO), what(1, Check.NO));
        due("21", "nearest", wheel(Check.NONE), from(1, 1, 1000, Check.BAD));
    }

    private static void dates() throws ReflectiveOperationException {
        due("22", "date", month(Check.NO), what(3, Check.NO));
        due("23", "month", from(0, 0, 1000000, Check.BAD));
        due("24", "angle", wheel(Check.NO), month(Check.NO));
        due("25", "size", month(Check.BAD), what(1, Check.BAD));
        due("26", "most", from(4, 1, 4, Check.BAD), month(Check.BAD), month(Check.BAD), month(Check.BAD), month(Check.BAD));
    }

    private static void rounds() throws ReflectiveOperationException {
        due("27", "period", wheel(Check.NO));
        due("28", "allRound", from(0, 0, 3, Check.NO));
        due("29", "meeting", wheel(Check.NONE), from(0, 0, 19, Check.BAD), wheel(Check.NONE), from(0, 0, 19, Check.BAD));
        due("30", "spell", month(Check.BAD));
        due("31", "paper", from(0, FIRST, LAST, Check.BAD), from(0, 0, 51, Check.NONE));
        due("32", "gap", month(Check.BAD), from(1, 1, 60, Check.BAD), what(2, Check.BAD));
        due("33", "feed", from(0, 0, 127, Check.BAD));
    }

    private static void traysAndLists() throws ReflectiveOperationException {
        Argument tray = from(0, 0, 3, Check.NONE);
        Argument list = from(0, 0, 2, Check.NONE);
        due("35", "tray", tray, from(0, -1, 4, Check.BAD), new Argument(5, 0, 12, Check.SIZE, Check.BAD));
        due("36", "lay", tray, from(0, 0, 11, Check.OUTSIDE), from(0, -1, 1, Check.NONE));
        due("37", "laid", tray, from(0, 0, 11, Check.OUTSIDE), what(3, Check.NONE));
        due("38", "like", tray, tray);
        due("39", "list", list, new Argument(5, -1, 40, Check.SIZE, Check.BAD));
        due("40", "put", list, from(0, 0, 39, Check.OUTSIDE), from(0, Long.MIN_VALUE, Long.MAX_VALUE, Check.NO));
        due("41", "get", from(0, 0, 2, Check.NO), from(0, 0, 39, Check.NO));
        due("42", "fill", list, month(Check.BAD));
        due("43", "judge", list, month(Check.BAD));
        due("44", "count", from(0, 0, 10, Check.BAD));
    }

    /** Two wheels of 20 parts, four trays and three lists as large as they can be, wheels laid at both ends. */
    private static EclipseWheel make() {
        EclipseWheel x = Check.small();
        x.wheel(0, 20, 1, 0);
        for (int tray = 0; tray < 4; tray++) {
            x.tray(tray, 0, 12);
            x.lay(tray, 0, 0);
            x.lay(tray, 11, 1);
        }
        for (int list = 0; list < 3; list++) {
            x.list(list, 40);
        }
        return x;
    }

    /** The refusals are worded in the order of the arguments. */
    private static void due(String promise, String name, Argument... arguments) throws ReflectiveOperationException {
        long[] order = new long[2 * arguments.length];
        for (int i = 0; i < arguments.length; i++) {
            order[2 * i] = arguments[i].refusedAbove;
            order[2 * i + 1] = arguments[i].refusedBelow;
        }
        dueInOrder(promise, name, order, arguments);
    }

    private static void dueInOrder(String promise, String name, long[] order, Argument... arguments)
            throws ReflectiveOperationException {
        rows++;
        Method method = Calls.named(name);
        for (int i = 0; i < arguments.length; i++) {
            Argument it = arguments[i];
            String call = promise + " " + name + ", argument " + i + " ";
            check.due(call + "the least is taken", isTaken(method, arguments, i, it.least) ? 1 : 0, 1);
            check.due(call + "the greatest is taken", isTaken(method, arguments, i, it.greatest) ? 1 : 0, 1);
            for (long by : BEYOND) {
                dueBeyond(call, method, arguments, i, it.least - by, it.refusedBelow);
                dueBeyond(call, method, arguments, i, it.greatest + by, it.refusedAbove);
            }
            for (int other = 0; other < i; other++) {
                dueTwo(promise, method, order, arguments, other, i);
            }
        }
    }

    /** Term 6: of two refused arguments "the first that a call's words name" is answered. */
    private static void dueTwo(String promise, Method method, long[] order, Argument[] arguments, int i, int other)
            throws ReflectiveOperationException {
        for (int sides = 0; sides < 4; sides++) {
            boolean below = sides % 2 == 0;
            boolean otherBelow = sides < 2;
            long first = below ? arguments[i].refusedBelow : arguments[i].refusedAbove;
            long second = otherBelow ? arguments[other].refusedBelow : arguments[other].refusedAbove;
            Object[] given = given(method, arguments, i, below ? arguments[i].least - FAR : arguments[i].greatest + FAR);
            long value = otherBelow ? arguments[other].least - FAR : arguments[other].greatest + FAR;
            Class<?> type = method.getParameterTypes()[other];
            given[other] = Calls.boxed(type, value);
            // a long has no refused ones
            long want = type == long.class ? first : earlier(order, first, second);
            long answer = ((Number) method.invoke(make(), given)).longValue();
            check.due(promise + " " + Calls.told(method, given) + ", both refused", answer, want);
        }
    }

    private static long earlier(long[] order, long first, long second) {
        for (long it : order) {
            if (it == first || it == second) {
                return it;
            }
        }
        throw new IllegalArgumentException();
    }

    private static void dueBeyond(String call, Method method, Argument[] arguments, int i, long value, long refused)
            throws ReflectiveOperationException {
        // a long has no refused ones
        if (method.getParameterTypes()[i] != long.class) {
            long kept = Math.max(Integer.MIN_VALUE, Math.min(Integer.MAX_VALUE, value));
            check.due(call + kept + " is refused", answer(method, arguments, i, kept), refused);
        }
    }

    private static boolean isTaken(Method method, Argument[] arguments, int i, long value)
            throws ReflectiveOperationException {
        long answer = answer(method, arguments, i, value);
        // a real answer may be NOT or a date below 0; the refusals of this argument are none
        return answer != arguments[i].refusedBelow && answer != arguments[i].refusedAbove;
    }

    private static long answer(Method method, Argument[] arguments, int i, long value) throws ReflectiveOperationException {
        return ((Number) method.invoke(make(), given(method, arguments, i, value))).longValue();
    }

    /** The i-th argument is the value, the others are as they should be. */
    private static Object[] given(Method method, Argument[] arguments, int i, long value) {
        Object[] given = new Object[arguments.length];
        for (int n = 0; n < given.length; n++) {
            given[n] = Calls.boxed(method.getParameterTypes()[n], n == i ? value : arguments[n].taken);
        }
        return given;
    }
}
