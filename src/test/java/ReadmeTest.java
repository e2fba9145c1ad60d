import java.io.IOException;
import java.lang.reflect.Method;
import java.nio.file.Files;
import java.nio.file.Path;
import java.util.regex.Matcher;
import java.util.regex.Pattern;

/** README.md, in the folder that the tests are run from: its examples answer as it says, and it names every call. */
public final class ReadmeTest {
    private static final Check check = new Check("ReadmeTest");
    private static final Pattern EXAMPLE = Pattern.compile("x\\.(\\w+)\\(([-\\d, ]*)\\);\\s+// (-?\\d+): ");
    private static final Pattern TEXT = Pattern.compile("A text for `feed` and `read`: `([^`]+)`");

    public static void main(String[] args) throws IOException, ReflectiveOperationException {
        String page = Files.readString(Path.of("README.md"));
        examples(page);
        text(page);
        calls(page);
        check.end();
    }

    private static void examples(String page) throws ReflectiveOperationException {
        EclipseWheel x = new EclipseWheel();
        Matcher example = EXAMPLE.matcher(page);
        int many = 0;
        while (example.find()) {
            Method call = Calls.named(example.group(1));
            String[] told = example.group(2).isEmpty() ? new String[0] : example.group(2).split(", ");
            check.due("arguments of " + example.group(), told.length, call.getParameterCount());
            Object[] arguments = new Object[told.length];
            for (int i = 0; i < told.length; i++) {
                arguments[i] = Calls.boxed(call.getParameterTypes()[i], Long.parseLong(told[i]));
            }
            long got = ((Number) call.invoke(x, arguments)).longValue();
            check.due(example.group(), got, Long.parseLong(example.group(3)));
            many++;
        }
        check.due("examples", many, 10);
        check.due("behind them there is no apse", x.count(4), Check.NONE);
    }

    /** Makes what the examples make. */
    private static void text(String page) {
        Matcher text = TEXT.matcher(page);
        check.due("a text", text.find() ? 1 : 0, 1);
        EclipseWheel x = new EclipseWheel();
        check.due("statements", Check.read(x, text.group(1)), 5);
        int[] wheel = {0, 251, 18, 7, 1};
        for (int what = 0; what < wheel.length; what++) {
            check.due("wheel 1 " + what, x.of(1, what), wheel[what]);
        }
        int[] counts = {2, 0, 1, 0, 1, 17};
        for (int what = 0; what < counts.length; what++) {
            check.due("count " + what, x.count(what), counts[what]);
        }
        check.due("eclipse at 6", x.eclipse(6, 0), 3);
    }

    private static void calls(String page) {
        for (Method call : Calls.all()) {
            Matcher named = Pattern.compile("`" + call.getName() + "\\(([a-z, ]*)\\)`").matcher(page);
            boolean isThere = named.find();
            check.due("names " + call.getName(), isThere ? 1 : 0, 1);
            if (isThere) {
                int arguments = named.group(1).isEmpty() ? 0 : named.group(1).split(", ").length;
                check.due("arguments of " + call.getName(), arguments, call.getParameterCount());
            }
        }
    }
}
