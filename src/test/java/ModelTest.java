import java.lang.reflect.Method;
import java.util.List;

/** Runs of calls on new objects, told by a fixed row of numbers, beside the model: each answer must be the same. */
public final class ModelTest {
    private static final Check check = new Check("ModelTest");
    private static final int CALLS = 100;
    private static final int[] WILD = {Integer.MIN_VALUE, Integer.MAX_VALUE, -1, 0, 1, 100000, -100000, 100001, -100001};

    private static long row;

    /** From 0 on, below n. */
    private static int below(int n) {
        row = row * 6364136223846793005L + 1442695040888963407L;
        return (int) ((row >>> 33) % n);
    }

    private static boolean oneIn(int n) {
        return below(n) == 0;
    }

    public static void main(String[] args) throws ReflectiveOperationException {
        int from = args.length > 0 ? Integer.parseInt(args[0]) : 0;
        int runs = args.length > 1 ? Integer.parseInt(args[1]) : 250;
        List<Method> calls = Calls.all();
        for (int run = from; run < from + runs && check.isClean(); run++) {
            row = run * 7919L + 17;
            run(run, calls);
        }
        check.end();
    }

    private static void run(int run, List<Method> calls) throws ReflectiveOperationException {
        EclipseWheel x = new EclipseWheel();
        Model model = new Model();
        int size = below(3);
        for (int call = 0; call < CALLS && check.isClean(); call++) {
            if (oneIn(12)) {
                call += feedText(run, x, model);
                continue;
            }
            Method method = calls.get(below(calls.size()));
            String name = method.getName();
            if (seldom(name) && !oneIn(4)) {
                continue;
            }
            Object[] arguments = arguments(method, model, size);
            Class<?>[] types = method.getParameterTypes();
            Method other = Model.class.getDeclaredMethod(name, types);
            String told = "run " + run + " call " + call + " " + Calls.told(method, arguments);
            long due = ((Number) other.invoke(model, arguments)).longValue();
            check.due(told, ((Number) method.invoke(x, arguments)).longValue(), due);
        }
        same(run, x, model);
    }

    private static boolean seldom(String name) {
        return name.equals("drop") || name.equals("undo") || name.equals("meeting") || name.equals("records")
            || name.equals("record");
    }

    /** A kind of argument by the call's name: a letter each, told at told(). */
    private static String shape(String name) {
        switch (name) {
            case "wheel": return "KPSs";
            case "of": return "wE";
            case "turn": return "wSs";
            case "at": case "rounds": case "angle": return "wm";
            case "bind": return "wW";
            case "rule": return "RV";
            case "eclipse": return "mT";
            case "eclipses": return "abT";
            case "next": return "mD";
            case "family": return "mkT";
            case "roll": return "acky";
            case "drift": case "records": return "kD";
            case "record": return "iD";
            case "terms": case "period": return "w";
            case "term": return "wi";
            case "convergent": return "wiD";
            case "nearest": return "wn";
            case "date": return "mT";
            case "month": return "d";
            case "size": return "mD";
            case "most": return "Tmmmm";
            case "allRound": return "z";
            case "meeting": return "wswt";
            case "spell": return "m";
            case "paper": return "mj";
            case "gap": return "mgT";
            case "feed": return "f";
            case "tray": return "TKN";
            case "lay": return "TNW";
            case "laid": return "TNT";
            case "like": return "TT";
            case "list": return "DL";
            case "put": return "DLv";
            case "get": return "DL";
            case "fill": case "judge": return "Dm";
            case "count": return "C";
            default: return "";
        }
    }

    private static int lastA;

    private static Object[] arguments(Method method, Model model, int size) {
        String shape = shape(method.getName());
        Object[] arguments = new Object[shape.length()];
        for (int i = 0; i < arguments.length; i++) {
            int value = oneIn(60) ? WILD[below(WILD.length)] : told(shape.charAt(i), model, size);
            if (shape.charAt(i) == 'a') {
                lastA = value;
            }
            if (shape.charAt(i) == 'v') {
                arguments[i] = oneIn(2) ? Long.valueOf(value) : Long.valueOf(value * 4294967296L);
            } else {
                arguments[i] = value;
            }
        }
        return arguments;
    }

    private static int told(char letter, Model model, int size) {
        int wheels = model.s.wheels.size();
        switch (letter) {
            case 'K': return below(7) - 1;
            case 'P': return oneIn(20) ? below(3) : size == 0 ? 2 + below(40) : size == 1 ? 2 + below(600) : 2 + below(99999);
            case 'S': return oneIn(20) ? 99990 + below(12) : size == 0 ? below(60) : size == 1 ? below(1000) : below(100000);
            case 's': case 't': return oneIn(3) ? 0 : oneIn(8) ? below(100000) : below(size == 0 ? 10 : 300) - 1;
            case 'w': return oneIn(12) ? below(8) - 1 : below(Math.max(1, wheels));
            case 'W': return oneIn(3) ? -1 : below(8) - 2;
            case 'm': case 'a': return oneIn(6) ? (oneIn(2) ? 100001 - below(300) : below(300) - 100001) : below(8000) - 4000;
            case 'b': return lastA + (oneIn(10) ? below(4003) : below(600) - 5);
            case 'c': return lastA + (oneIn(10) ? below(203) : below(120) - 3);
            case 'k': return oneIn(10) ? below(2004) - 1 : below(40);
            case 'n': return oneIn(10) ? below(1004) - 1 : below(60);
            case 'd': return oneIn(3) ? below(1000003) - 1 : below(4000);
            case 'i': return below(14) - 1;
            case 'j': return oneIn(4) ? below(140) - 1 : below(60);
            case 'g': return oneIn(4) ? below(63) - 1 : below(10);
            case 'z': return oneIn(10) ? below(200) : below(1 << Math.max(1, wheels));
            case 'f': return oneIn(3) ? below(131) - 1 : "wblhgnaoi;/+0123".charAt(below(16));
            case 'E': return below(7) - 1;
            case 'R': return below(8) - 1;
            case 'V': return oneIn(5) ? below(100003) - 1 : below(size == 0 ? 12 : size == 1 ? 100 : 30000);
            case 'D': return oneIn(8) ? below(5) - 1 : below(2);
            case 'T': return oneIn(8) ? below(7) - 1 : below(4);
            case 'y': return oneIn(8) ? below(8) - 1 : below(5);
            case 'N': return oneIn(4) ? below(17) - 2 : below(6);
            case 'L': return oneIn(4) ? below(45) - 2 : below(9);
            case 'v': return below(9) - 4;
            case 'C': return below(13) - 1;
            default: return 0;
        }
    }

    private static String number() {
        return oneIn(30) ? "1234567".substring(below(7)) : oneIn(12) ? "99999" : Integer.toString(below(oneIn(4) ? 1000 : 7));
    }

    private static int feedText(int run, EclipseWheel x, Model model) {
        StringBuilder text = new StringBuilder();
        int statements = 1 + below(4);
        for (int i = 0; i < statements; i++) {
            text.append(i == 0 ? "" : ";");
            if (oneIn(2)) {
                text.append("naoi".charAt(below(4))).append(number());
            } else {
                text.append("wblhg".charAt(below(5))).append(number()).append("/").append(2 + below(500));
                text.append(oneIn(2) ? "+" + number() : "");
            }
        }
        if (oneIn(4)) {
            text.setCharAt(below(text.length()), "wna;/+1 x9".charAt(below(10)));
        }
        for (int i = 0; i < text.length(); i++) {
            check.due("run " + run + " feed " + text.charAt(i), x.feed(text.charAt(i)), model.feed(text.charAt(i)));
        }
        check.due("run " + run + " read " + text, x.read(), model.read());
        return text.length() + 1;
    }

    /** All that can be asked cheaply is the same at the end, too. */
    private static void same(int run, EclipseWheel x, Model model) {
        for (int i = 0; i <= 10; i++) {
            check.due("run " + run + " at the end count " + i, x.count(i), model.count(i));
        }
        for (int i = 0; i < 6; i++) {
            for (int what = 0; what < 5; what++) {
                check.due("run " + run + " at the end of " + i, x.of(i, what), model.of(i, what));
            }
        }
        for (int i = 0; i < 4; i++) {
            for (int place = 0; place < 12; place++) {
                for (int what = 0; what < 4; what++) {
                    check.due("run " + run + " at the end laid", x.laid(i, place, what), model.laid(i, place, what));
                }
            }
        }
        for (int i = 0; i < 3; i++) {
            for (int item = 0; item < 40; item++) {
                check.due("run " + run + " at the end get", x.get(i, item), model.get(i, item));
            }
        }
    }
}
