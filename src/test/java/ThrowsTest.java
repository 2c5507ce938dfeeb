import java.lang.reflect.Method;
import java.lang.reflect.Modifier;
import java.util.Arrays;
import java.util.Comparator;
import java.util.List;

/**
 * Whatever numbers a call is given, it throws by a throw statement alone: the exception is one
 * that the call declares, and it has a text that stands in the program.
 */
final class ThrowsTest {
    private static final int[] NUMBERS = {Integer.MIN_VALUE, -1 << 29, -8, -1, 0, 1, 3, 4, 7, 8, 9,
        10, 79, 80, 99, 100, 1 << 29, Integer.MAX_VALUE};
    private static final int[] FEW_NUMBERS = {Integer.MIN_VALUE, -1, 0, 1, 9, 99, 100,
        Integer.MAX_VALUE};
    private static final int FEW_FROM = 3;

    private final String[] box;
    private final String program;
    private final StringBuilder faults = new StringBuilder();
    private Object reader;
    private int made;

    private ThrowsTest(String[] box, String program) {
        this.box = box;
        this.program = program;
    }

    static void run(Results results) {
        String program = Texts.read(Texts.PROGRAM);
        String[][] boxes = {Boxes.EMPTY, Boxes.ONE_MAIL, Boxes.SMALL, Boxes.mails(10), Boxes.FULL};
        Method[] methods = TalkRebuilder.class.getDeclaredMethods();
        // The machine may give them in any order, but the same calls are to be made every time.
        Arrays.sort(methods, Comparator.comparing(Method::getName));
        for (String[] box : boxes) {
            ThrowsTest test = new ThrowsTest(box, program);
            for (Method method : methods) {
                if (Modifier.isPublic(method.getModifiers())) {
                    test.tryFrom(method, new int[method.getParameterCount()], 0);
                }
            }
            results.record("rule 7 | No call may ever throw by itself (only by a throw statement),"
                    + " for any arguments in any state | after " + box.length + " calls",
                    test.faults.toString());
        }
    }

    /** Tries all numbers for the parameters from one on. */
    private void tryFrom(Method method, int[] arguments, int parameter) {
        if (parameter == arguments.length) {
            tryCall(method, arguments);
            return;
        }
        for (int number : arguments.length < FEW_FROM ? NUMBERS : FEW_NUMBERS) {
            arguments[parameter] = number;
            tryFrom(method, arguments, parameter + 1);
        }
    }

    private void tryCall(Method method, int[] arguments) {
        if (reader == null || made == Calls.MOST) {
            reader = Replay.after(TalkRebuilder::new, Arrays.asList(box));
            made = box.length;
        }
        made++;
        Throwable thrown = Calls.thrownBy(reader, method.getName(), arguments);
        if (thrown == null) {
            return;
        }
        List<Class<?>> declared = Arrays.asList(method.getExceptionTypes());
        boolean isWritten = thrown.getMessage() != null
                && program.contains("\"" + thrown.getMessage() + "\"");
        if (!declared.contains(thrown.getClass()) || !isWritten) {
            faults.append("  ").append(method.getName()).append(Arrays.toString(arguments))
                    .append(" throws ").append(thrown).append('\n');
        }
    }
}
