import java.util.ArrayList;
import java.util.Arrays;
import java.util.List;
import java.util.function.Function;

/**
 * Tests of what a call answers on many boxes: it must be what follows from the answers of other
 * calls and from what the calls before told. No second reader takes part.
 */
final class Relations {
    private static final int RANDOM_BOXES = 60;
    private static final List<List<String>> BOXES = boxes();

    private Relations() {
    }

    private static List<List<String>> boxes() {
        List<List<String>> boxes = new ArrayList<>();
        boxes.add(Arrays.asList(Boxes.EMPTY));
        boxes.add(Arrays.asList(Boxes.ONE_MAIL));
        boxes.add(Arrays.asList(Boxes.SMALL));
        boxes.add(Arrays.asList(Boxes.FULL));
        for (int seed = 1; seed <= RANDOM_BOXES; seed++) {
            boxes.add(Boxes.random(seed));
        }
        return boxes;
    }

    /** One test of a call, asked of the box, or of each mail, or of each line. */
    static void test(Results results, String sentence, String call, Function<Asked, Object> due) {
        StringBuilder faults = new StringBuilder();
        for (List<String> box : BOXES) {
            String gotText = text(got(new Asked(box), call));
            String dueText = text(due.apply(new Asked(box)));
            if (!gotText.equals(dueText)) {
                faults.append("  after ").append(box).append("\n  ").append(call)
                        .append(" answered ").append(gotText).append("\n  due is ")
                        .append(dueText).append('\n');
            }
        }
        results.record(sentence + " | as other answers ask for", faults.toString());
    }

    private static Object got(Asked asked, String call) {
        if (call.equals("kind")) {
            return asked.kinds();
        }
        if (Arrays.asList(Calls.ASK_LINE).contains(call)) {
            return asked.ofLines(call);
        }
        return Arrays.asList(Calls.ASK_MAIL).contains(call) ? asked.ofMails(call)
                : asked.text(call);
    }

    private static String text(Object answers) {
        return Arrays.deepToString(new Object[] {answers});
    }
}
