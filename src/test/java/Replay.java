import java.util.ArrayList;
import java.util.Arrays;
import java.util.List;
import java.util.function.Supplier;

/**
 * What new objects answer after some calls. An object is only promised to answer 512 calls, so
 * the many questions are shared out among objects on which the same calls have been made.
 */
final class Replay {
    /** Changes of every mail, whether it is there or not, that show what a question can't. */
    private static final List<String> CHANGES = changes();
    /** Mails of all dates, which show by what they are refused which dates are had. */
    private static final List<String> ARRIVALS = arrivals();

    private Replay() {
    }

    static Object after(Supplier<?> maker, List<String> calls) {
        Object reader = maker.get();
        for (String call : calls) {
            Calls.answer(reader, call);
        }
        return reader;
    }

    /** The answers of all calls that only ask, for every mail and every line. */
    static String everythingAfter(Supplier<?> maker, List<String> calls) {
        return answers(maker, calls, questions(after(maker, calls)));
    }

    /**
     * Everything, then the answers of further changes and everything after these, so that what no
     * question shows at once is found, too.
     */
    static String futureAfter(Supplier<?> maker, List<String> calls) {
        List<String> longer = new ArrayList<>(calls);
        longer.addAll(CHANGES);
        return everythingAfter(maker, calls) + answers(maker, calls, CHANGES)
                + everythingAfter(maker, longer) + answers(maker, calls, ARRIVALS);
    }

    private static String answers(Supplier<?> maker, List<String> calls, List<String> questions) {
        int portion = Calls.MOST - calls.size();
        if (portion < ARRIVALS.size()) {
            throw new IllegalArgumentException("too many calls ahead of the questions");
        }
        StringBuilder all = new StringBuilder();
        Object reader = null;
        for (int asked = 0; asked < questions.size(); asked++) {
            if (asked % portion == 0) {
                reader = after(maker, calls);
            }
            String question = questions.get(asked);
            all.append(question).append(" = ").append(Calls.answer(reader, question))
                    .append('\n');
        }
        return all.toString();
    }

    private static List<String> questions(Object reader) {
        List<String> questions = new ArrayList<>();
        for (String name : Calls.ASK_ALL) {
            questions.add(name + "()");
        }
        int mails = Integer.parseInt(Calls.answer(reader, "mails()"));
        for (int mail = 0; mail < mails; mail++) {
            for (String name : Calls.ASK_MAIL) {
                questions.add(name + "(" + mail + ")");
            }
            int lines = Integer.parseInt(Calls.answer(reader, "lines(" + mail + ")"));
            for (int line = 0; line < lines; line++) {
                for (String name : Calls.ASK_LINE) {
                    questions.add(name + "(" + mail + ", " + line + ")");
                }
            }
        }
        return questions;
    }

    private static List<String> changes() {
        List<String> changes = new ArrayList<>(Arrays.asList("arrive(98, 5, 9, 97)",
                "arrive(97, 3, 9, 20)", "arrive(96, 4, 3, 0)", "arrive(98, 5, 9, 0)"));
        for (int mail = 0; mail < 10; mail++) {
            changes.add("removeLine(" + mail + ")");
            changes.add("removeLine(" + mail + ")");
            changes.add("addLine(" + mail + ", 1, 7)");
            changes.add("addLine(" + mail + ", 0, 98)");
        }
        return changes;
    }

    private static List<String> arrivals() {
        List<String> arrivals = new ArrayList<>();
        for (int date = 1; date <= 99; date++) {
            arrivals.add("arrive(" + date + ", 0, 0, 0)");
        }
        return arrivals;
    }
}
