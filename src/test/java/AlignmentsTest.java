import java.util.ArrayList;
import java.util.List;

/** Every mail of few short lines faces every parent of few short lines. */
final class AlignmentsTest {
    private static final int MOST_LINES = 4;
    private static final String[] LINES = {"1, 7", "1, 8", "2, 7"};
    private static final String[] PARENT_LINES = {"0, 7", "0, 8", "1, 7"};

    private AlignmentsTest() {
    }

    static void run(Results results) {
        StringBuilder counts = new StringBuilder();
        StringBuilder partners = new StringBuilder();
        for (List<String> parent : mails("addLine(0, ", PARENT_LINES)) {
            for (List<String> mail : mails("addLine(1, ", LINES)) {
                List<String> calls = new ArrayList<>(List.of("arrive(10, 0, 0, 0)",
                        "arrive(20, 1, 0, 10)"));
                calls.addAll(parent);
                calls.addAll(mail);
                Object reader = Replay.after(TalkRebuilder::new, calls);
                Object plain = Replay.after(PlainReader::new, calls);
                String due = Calls.answer(plain, "aligned(1)");
                counts.append(fault(calls, reader, "aligned(1)", due));
                counts.append(fault(calls, reader, "alignedByTrying(1)", due));
                for (int line = 0; line < mail.size(); line++) {
                    String call = "partner(1, " + line + ")";
                    partners.append(fault(calls, reader, call, Calls.answer(plain, call)));
                }
            }
        }
        results.record("promises 10 and 11 | found by a table | found by trying all alignments |"
                + " all mails of up to 4 lines", counts.toString());
        results.record("promise 12 | of several, it is the one in which the line with the lowest"
                + " number has the partner with the lowest number | all mails of up to 4 lines",
                partners.toString());
    }

    private static String fault(List<String> calls, Object reader, String call, String due) {
        String got = Calls.answer(reader, call);
        return got.equals(due) ? "" : "  " + calls + " " + call + " answered " + got + ", due is "
                + due + "\n";
    }

    /** The calls that fill a mail with no lines, and with all rows of lines up to the most. */
    private static List<List<String>> mails(String begin, String[] lines) {
        List<List<String>> all = new ArrayList<>();
        all.add(new ArrayList<>());
        for (int next = 0; next < all.size(); next++) {
            List<String> mail = all.get(next);
            for (String line : mail.size() < MOST_LINES ? lines : new String[0]) {
                List<String> longer = new ArrayList<>(mail);
                longer.add(begin + line + ")");
                all.add(longer);
            }
        }
        return all;
    }
}
