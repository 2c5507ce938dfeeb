import java.lang.reflect.Method;
import java.lang.reflect.Modifier;
import java.util.HashMap;
import java.util.Map;
import java.util.regex.Matcher;
import java.util.regex.Pattern;

/** README.md: its example answers what it says, and it names each call of the face. */
final class ReadmeTest {
    private static final int LEAST_ANSWERS = 9;
    /** Such as "int first = box.arrive(10, 0, 3, 0);  // a remark". */
    private static final Pattern CALL = Pattern.compile(
            "(?:int (\\w+) = )?box\\.(\\w+)\\(([^)]*)\\);\\s*// (.*)");
    /** A remark that begins with an answer, such as "'q', quoted". */
    private static final Pattern ANSWER = Pattern.compile("'?([a-z]|[0-9.]+)'?, .*");

    private ReadmeTest() {
    }

    static void run(Results results) {
        String page = Texts.read(Texts.README);
        results.record("README.md | the example answers what it says", exampleFaults(page));
        results.record("README.md | each call is named", namesMissing(page));
    }

    private static String exampleFaults(String page) {
        TalkRebuilder box = new TalkRebuilder();
        Map<String, String> variables = new HashMap<>();
        StringBuilder faults = new StringBuilder();
        int answers = 0;
        Matcher call = CALL.matcher(page);
        while (call.find()) {
            String arguments = call.group(3);
            for (Map.Entry<String, String> variable : variables.entrySet()) {
                arguments = arguments.replace(variable.getKey(), variable.getValue());
            }
            String got = Calls.answer(box, call.group(2) + "(" + arguments + ")");
            Matcher answer = ANSWER.matcher(call.group(4));
            if (call.group(1) != null) {
                variables.put(call.group(1), got);
            } else if (answer.matches()) {
                answers++;
                faults.append(got.equals(answer.group(1)) ? ""
                        : "  " + call.group() + " answered " + got + "\n");
            }
        }
        return answers >= LEAST_ANSWERS ? faults.toString()
                : faults + "  there are only " + answers + " answers\n";
    }

    private static String namesMissing(String page) {
        StringBuilder faults = new StringBuilder();
        for (Method method : TalkRebuilder.class.getDeclaredMethods()) {
            boolean isCall = Modifier.isPublic(method.getModifiers());
            if (isCall && !page.contains("`" + method.getName() + "(")) {
                faults.append("  ").append(method.getName()).append('\n');
            }
        }
        return faults.toString();
    }
}
