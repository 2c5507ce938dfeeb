import java.util.ArrayList;
import java.util.Arrays;
import java.util.List;

/** The sentences that tell what the whole is: those of "What it is" and the first of "Terms". */
final class OverviewTest {
    private static final String WHOLE = "what it is | A reader of mail threads | ";
    private static final String NONE = " = throws.NoSuchElementException";
    /** Five mails with lines of every kind; '#' stands for the number that a mail gets. */
    private static final String[][] MAILS = {
        {"arrive(20, 1, 3, 10)", "addLine(#, 1, 7)", "addLine(#, 1, 7)", "addLine(#, 0, 8)",
            "addLine(#, 0, 9)"},
        {"arrive(25, 2, 3, 10)", "addLine(#, 1, 7)", "addLine(#, 1, 5)", "addLine(#, 0, 8)"},
        {"arrive(30, 2, 3, 20)", "addLine(#, 2, 7)", "addLine(#, 1, 8)", "addLine(#, 0, 11)",
            "addLine(#, 1, 60)"},
        {"arrive(40, 1, 4, 30)", "addLine(#, 3, 7)", "addLine(#, 0, 12)", "addLine(#, 1, 11)",
            "addLine(#, 0, 13)", "addLine(#, 0, 9)"},
        {"arrive(50, 0, 3, 25)", "addLine(#, 2, 5)", "addLine(#, 0, 14)", "addLine(#, 1, 8)",
            "addLine(#, 0, 15)"},
    };

    private OverviewTest() {
    }

    static void run(Results results) {
        story(results);
        orders(results);
    }

    private static void story(Results results) {
        results.rows(WHOLE + "lines with marks that quote the mail that is answered",
                "arrive(20, 1, 0, 10) = 0", "arrive(10, 0, 0, 0) = 1", "arrive(5, 2, 0, 0) = 2",
                "addLine(0, 1, 7) = 1", "addLine(0, 1, 8) = 2", "addLine(1, 0, 7) = 1",
                "addLine(2, 0, 8) = 1", "kind(0, 0) = q", "partner(0, 0) = 0",
                "originMail(0, 0) = 1", "kind(0, 1) = x", "partner(0, 1)" + NONE);
        results.rows(WHOLE + "signatures that are found by repetition",
                "arrive(10, 0, 0, 0) = 0", "addLine(0, 0, 7) = 1", "addLine(0, 0, 80) = 2",
                "addLine(0, 0, 81) = 3", "signature(0) = 0", "kind(0, 1) = n",
                "arrive(20, 0, 0, 0) = 1", "addLine(1, 0, 8) = 1", "addLine(1, 0, 80) = 2",
                "signature(0) = 0", "addLine(1, 0, 81) = 3", "signature(0) = 2",
                "signature(1) = 2", "kind(0, 0) = n", "kind(0, 1) = s", "kind(1, 2) = s");
        results.rows(WHOLE + "lines of mails that are missing",
                "arrive(20, 0, 0, 10) = 0", "addLine(0, 1, 7) = 1", "addLine(0, 2, 8) = 2",
                "missing() = 1", "kind(0, 0) = r", "kind(0, 1) = x", "talk() = 1",
                "copies(0, 0) = 1");
        results.rows(WHOLE + "answers between quoted parts",
                "arrive(10, 0, 0, 0) = 0", "addLine(0, 0, 7) = 1", "addLine(0, 0, 8) = 2",
                "arrive(20, 1, 0, 10) = 1", "addLine(1, 1, 7) = 1", "addLine(1, 0, 17) = 2",
                "addLine(1, 1, 8) = 3", "addLine(1, 0, 18) = 4", "answersLine(1, 1) = 0",
                "answersLine(1, 3) = 1", "answers(0, 0) = 1", "answers(0, 1) = 1");
        results.rows(WHOLE + "and changed subjects",
                "arrive(10, 0, 1, 0) = 0", "arrive(20, 1, 2, 10) = 1", "arrive(30, 0, 2, 20) = 2",
                "root(0) = 0", "root(1) = 1", "root(2) = 1", "threads() = 2", "size(0) = 1",
                "size(2) = 2");
    }

    private static void orders(Results results) {
        List<List<Integer>> orders = orders(MAILS.length);
        String first = picture(orders.get(0), true);
        StringBuilder atOnce = new StringBuilder();
        StringBuilder later = new StringBuilder();
        for (List<Integer> order : orders) {
            atOnce.append(picture(order, true).equals(first) ? "" : "  not in " + order + "\n");
            later.append(picture(order, false).equals(first) ? "" : "  not in " + order + "\n");
        }
        results.record(WHOLE + "mails that arrive in any order | five, in each of " + orders.size()
                + " orders, tell the same", atOnce.toString());
        results.record("terms | Its calls are those of a mail box: mails arrive with their lines |"
                + " the lines are added at once, or when all have arrived", later.toString());
    }

    /** All orders of the numbers below a count. */
    private static List<List<Integer>> orders(int count) {
        List<List<Integer>> orders = new ArrayList<>();
        orders.add(new ArrayList<>());
        for (int number = 0; number < count; number++) {
            List<List<Integer>> longer = new ArrayList<>();
            for (List<Integer> order : orders) {
                for (int at = 0; at <= order.size(); at++) {
                    List<Integer> with = new ArrayList<>(order);
                    with.add(at, number);
                    longer.add(with);
                }
            }
            orders = longer;
        }
        return orders;
    }

    /** All answers in the order of MAILS, with these mails' places instead of their numbers. */
    private static String picture(List<Integer> order, boolean linesAtOnce) {
        List<String> calls = new ArrayList<>();
        List<String> lines = new ArrayList<>();
        for (int number = 0; number < order.size(); number++) {
            String[] mail = MAILS[order.get(number)];
            calls.add(mail[0]);
            for (String line : Arrays.asList(mail).subList(1, mail.length)) {
                (linesAtOnce ? calls : lines).add(line.replace("#", "" + number));
            }
        }
        calls.addAll(lines);
        Asked asked = new Asked(calls);
        StringBuilder picture = new StringBuilder();
        for (String call : Calls.ASK_ALL) {
            picture.append(asked.text(call)).append(' ');
        }
        for (int place = 0; place < order.size(); place++) {
            picture.append(pictureOfMail(asked, order, order.indexOf(place)));
        }
        return picture.toString();
    }

    private static String pictureOfMail(Asked asked, List<Integer> order, int number) {
        StringBuilder picture = new StringBuilder("\n");
        for (String call : Calls.ASK_MAIL) {
            picture.append(placed(call, asked.text(call, number), order)).append(' ');
        }
        for (int line = 0; line < asked.told.mails.get(number).lines.size(); line++) {
            picture.append('|');
            for (String call : Calls.ASK_LINE) {
                picture.append(placed(call, asked.text(call, number, line), order)).append(' ');
            }
        }
        return picture.toString();
    }

    private static String placed(String call, String answer, List<Integer> order) {
        boolean isMail = Arrays.asList("parent", "root", "rootByRounds", "originMail",
                "answersMail").contains(call) && !answer.startsWith("throws.");
        return isMail ? "" + order.get(Integer.parseInt(answer)) : answer;
    }
}
