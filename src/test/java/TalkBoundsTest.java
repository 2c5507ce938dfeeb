import java.util.ArrayList;
import java.util.List;

/**
 * The bounds that promises 17 to 22 name. The name of each test tells the promise, the words of
 * the sentence, and the case of it.
 */
final class TalkBoundsTest {
    private static final String NONE = " = throws.NoSuchElementException";
    private static final String UNFIT = " = throws.UnsupportedOperationException";
    private static final String NO_SUCH = " = throws.IndexOutOfBoundsException";

    private TalkBoundsTest() {
    }

    static void run(Results results) {
        answered(results, "promise 17 | ", "answersMail");
        answered(results, "promise 18 | ", "answersLine");
        answeredMail(results);
        answeredLine(results);
        answers(results);
        talk(results);
        copies(results);
        refusedCopies(results);
    }

    private static void answered(Results results, String promise, String name) {
        results.lineNumbers(promise, name);
        results.refused(promise + "Throws `UnsupportedOperationException` if the line is not new |"
                + " each other kind, with a quoted line ahead and without", Boxes.SMALL,
                name + "(0, 0)" + UNFIT, name + "(0, 1)" + UNFIT, name + "(0, 3)" + UNFIT,
                name + "(1, 0)" + UNFIT, name + "(1, 1)" + UNFIT, name + "(1, 3)" + UNFIT,
                name + "(2, 0)" + UNFIT, name + "(2, 2)" + UNFIT);
        results.rows(promise + "Throws `UnsupportedOperationException` if the line is not new | a"
                + " line that becomes one of a signature, and new again",
                "arrive(10, 0, 0, 0) = 0", "arrive(20, 1, 0, 10) = 1", "arrive(30, 1, 0, 0) = 2",
                "addLine(0, 0, 7) = 1", "addLine(1, 1, 7) = 1", "addLine(1, 0, 8) = 2",
                name + "(1, 1) = 0", "addLine(2, 0, 8) = 1", name + "(1, 1)" + UNFIT,
                name + "(2, 0)" + UNFIT, "removeLine(2) = 0", name + "(1, 1) = 0");
        results.refused(promise + "Throws `NoSuchElementException` if it answers none | only"
                + " recovered lines and doubles ahead", Boxes.SMALL, name + "(0, 2)" + NONE);
        results.rows(promise + "Throws `NoSuchElementException` if it answers none | the first"
                + " line, lines behind new and stray ones, and the quoted line behind",
                "arrive(10, 0, 0, 0) = 0", "arrive(20, 1, 0, 10) = 1", "addLine(0, 0, 7) = 1",
                "addLine(1, 0, 20) = 1", "addLine(1, 0, 21) = 2", "addLine(1, 1, 60) = 3",
                "addLine(1, 2, 7) = 4", "addLine(1, 0, 22) = 5", "addLine(1, 1, 7) = 6",
                name + "(0, 0)" + NONE, name + "(1, 0)" + NONE, name + "(1, 1)" + NONE,
                name + "(1, 4)" + NONE, "addLine(1, 0, 23) = 7", name + "(1, 6) = 0",
                name + "(1, 4)" + NONE, "removeLine(0) = 0", name + "(1, 6)" + NONE);
        results.rows(promise + "Throws `NoSuchElementException` if it answers none | the last line"
                + " of 8 new ones, and the first line behind a mail that ends with a quote",
                Boxes.join(new String[] {"arrive(10, 0, 0, 0)", "arrive(20, 1, 0, 10)",
                    "arrive(30, 2, 0, 0)", "addLine(0, 0, 7)"}, Boxes.lines(1, 7, 0, 20),
                new String[] {"addLine(1, 1, 7) = 8", "kind(1, 7) = q", "addLine(2, 0, 8) = 1",
                    name + "(2, 0)" + NONE}, Boxes.lines(2, 7, 0, 30), new String[] {
                        name + "(2, 7)" + NONE, name + "(1, 6)" + NONE}));
    }

    private static void answeredMail(Results results) {
        results.rows("promise 17 | Returns the number of the mail of that line. | 0, by the second"
                + " mail, and 9, by the third",
                Boxes.join(new String[] {"arrive(50, 0, 0, 0)", "arrive(60, 1, 0, 50)",
                    "arrive(99, 2, 0, 98)", "addLine(0, 0, 7)", "addLine(1, 1, 7)",
                    "addLine(1, 0, 8)", "answersMail(1, 1) = 0"}, Boxes.mails(6), new String[] {
                        "arrive(98, 3, 0, 0) = 9", "addLine(9, 0, 7)", "addLine(2, 1, 7)",
                        "addLine(2, 0, 9)", "answersMail(2, 1) = 9", "answersLine(2, 1) = 0"}));
        results.rows("promise 17 | Returns the number of the mail of that line. | the last line of"
                + " the tenth mail, over three steps",
                Boxes.join(Boxes.mails(6), new String[] {"arrive(40, 1, 0, 6)",
                    "arrive(50, 2, 0, 40)", "arrive(60, 3, 0, 50)", "arrive(70, 4, 0, 0) = 9",
                    "addLine(5, 0, 7)", "addLine(6, 1, 7)", "addLine(7, 2, 7)",
                    "addLine(8, 3, 7)", "addLine(8, 0, 8)", "answersMail(8, 1) = 5",
                    "addLine(9, 0, 8)", "answersMail(9, 0)" + NONE}));
    }

    private static void answeredLine(Results results) {
        results.rows("promise 18 | Returns the number of that line in its mail. | 0 and 7, by the"
                + " line 1 and the line 7",
                Boxes.join(new String[] {"arrive(10, 0, 0, 0)", "arrive(20, 1, 0, 10)",
                    "arrive(30, 2, 0, 10)"}, Boxes.lines(0, 8, 0, 10), new String[] {
                        "addLine(1, 1, 17) = 1", "addLine(1, 0, 30) = 2", "answersLine(1, 1) = 7",
                        "answersMail(1, 1) = 0", "addLine(2, 1, 10) = 1"},
                Boxes.lines(2, 7, 0, 40), new String[] {"answersLine(2, 1) = 0",
                    "answersLine(2, 7) = 0", "removeLine(2) = 7", "removeLine(2) = 6",
                    "addLine(2, 1, 17) = 7", "addLine(2, 0, 60) = 8", "answersLine(2, 7) = 7",
                    "answersLine(2, 5) = 0"}));
        results.rows("promise 18 | Returns the number of that line in its mail. | a line that is"
                + " its own origin with 1 and 2 marks",
                "arrive(30, 0, 0, 5) = 0", "arrive(40, 1, 0, 30) = 1", "addLine(0, 0, 6) = 1",
                "addLine(0, 2, 7) = 2", "addLine(0, 1, 8) = 3", "addLine(1, 3, 7) = 1",
                "addLine(1, 0, 20) = 2", "addLine(1, 2, 8) = 3", "addLine(1, 0, 21) = 4",
                "answersMail(1, 1) = 0", "answersLine(1, 1) = 1", "answersMail(1, 3) = 0",
                "answersLine(1, 3) = 2");
    }

    private static void answers(Results results) {
        results.lineNumbers("promise 19 | ", "answers");
        results.rows("promise 19 | Returns the number of new lines, of all mails. | 0 without"
                + " quotes, without new lines behind them, and once they are removed",
                "arrive(10, 0, 0, 0) = 0", "addLine(0, 0, 7) = 1", "answers(0, 0) = 0",
                "addLine(0, 0, 8) = 2", "answers(0, 0) = 0", "arrive(20, 1, 0, 10) = 1",
                "addLine(1, 0, 20) = 1", "addLine(1, 1, 7) = 2", "answers(0, 0) = 0",
                "answers(1, 1) = 0", "addLine(1, 0, 21) = 3", "answers(0, 0) = 1",
                "answers(0, 1) = 0", "answers(1, 1) = 0", "answers(1, 0) = 0",
                "removeLine(1) = 2", "answers(0, 0) = 0");
        List<String> rows = new ArrayList<>(List.of("arrive(1, 0, 0, 0)", "addLine(0, 0, 99)"));
        rows.addAll(List.of(Boxes.answersToDateOne(9)));
        int due = 0;
        for (int mail = 1; mail <= 9; mail++) {
            rows.add("addLine(" + mail + ", 1, 99) = 1");
            rows.add("answers(0, 0) = " + due);
            rows.addAll(List.of(Boxes.lines(mail, 7, 0, 1 + 7 * mail)));
            due += 7;
            rows.add("answers(0, 0) = " + due);
        }
        rows.add("answers(0, 0) = 63");
        results.rows("promise 19 | Returns the number of new lines, of all mails. | 7 lines of each"
                + " of nine mails", rows.toArray(new String[0]));
        results.rows("promise 19 | Returns the number of new lines, of all mails. | of the first"
                + " and the last line of the tenth mail",
                Boxes.join(Boxes.answersToDateOne(9), new String[] {"arrive(1, 0, 0, 0) = 9"},
                Boxes.lines(9, 8, 0, 1), new String[] {"addLine(0, 1, 1)", "addLine(0, 0, 20)",
                    "addLine(8, 1, 8)", "addLine(8, 0, 21)", "answers(9, 0) = 1",
                    "answers(9, 7) = 1", "answers(9, 1) = 0", "answers(9, 6) = 0"}));
    }

    private static void talk(Results results) {
        for (String name : new String[] {"talk", "talkByOrigins"}) {
            String sentence = name.equals("talk")
                    ? "promise 20 | Returns the number of lines. | "
                    : "promise 21 | Returns the number of origins of the kinds 'n' and 'r', each"
                    + " one counted once. | ";
            String due = name + "() = ";
            results.rows(sentence + "0 without mails, and without lines",
                    Boxes.join(new String[] {due + 0}, Boxes.mails(10), new String[] {due + 0}));
            results.rows(sentence + "0 with lines that are of other kinds",
                    "arrive(10, 0, 0, 0) = 0", "arrive(20, 0, 0, 10) = 1", "addLine(0, 1, 7) = 1",
                    "addLine(1, 2, 7) = 1", due + 0, "addLine(0, 0, 8) = 2", due + 1,
                    "addLine(1, 0, 8) = 2", due + 0);
            results.rows(sentence + "80 new lines",
                    Boxes.join(Boxes.eightyNewLines(), new String[] {due + 80,
                        "removeLine(9) = 7", due + 79, "removeLine(0) = 7", due + 78}));
            results.rows(sentence + "8 recovered lines of one missing mail, not 80",
                    Boxes.join(Boxes.answersToDateOne(10), Boxes.lines(0, 8, 1, 1),
                    Boxes.lines(1, 8, 1, 1), Boxes.lines(9, 8, 1, 1), new String[] {due + 8}));
            results.rows(sentence + "4 of 11 lines of the six kinds",
                    Boxes.join(Boxes.SMALL, new String[] {due + 4}));
        }
    }

    private static void copies(Results results) {
        results.lineNumbers("promise 22 | ", "copies");
        results.rows("promise 22 | Returns the number of lines with this origin, the line itself"
                + " included. | 1 to 10, one in each mail",
                Boxes.join(new String[] {"arrive(1, 0, 0, 0)", "addLine(0, 0, 7)",
                    "copies(0, 0) = 1"}, Boxes.answersToDateOne(9), new String[] {
                        "copies(0, 0) = 1", "addLine(1, 1, 7)", "copies(0, 0) = 2",
                        "addLine(2, 1, 7)", "addLine(3, 1, 7)", "addLine(4, 1, 7)",
                        "addLine(5, 1, 7)", "addLine(6, 1, 7)", "addLine(7, 1, 7)",
                        "addLine(8, 1, 7)", "copies(0, 0) = 9", "addLine(9, 1, 7)",
                        "copies(0, 0) = 10", "addLine(9, 1, 7)", "copies(0, 0) = 10",
                        "removeLine(0) = 0", "copies(0, 0)" + NO_SUCH}));
        results.rows("promise 22 | Returns the number of lines with this origin, the line itself"
                + " included. | of the last line of the tenth mail, and of equal words",
                Boxes.join(Boxes.mails(9), new String[] {"arrive(50, 0, 0, 0) = 9"},
                Boxes.lines(9, 7, 0, 10), new String[] {"addLine(9, 0, 10) = 8",
                    "copies(9, 7) = 1", "copies(9, 0) = 1"}));
        results.rows("promise 22 | Returns the number of lines with this origin, the line itself"
                + " included. | of a recovered line, over two steps",
                "arrive(20, 0, 0, 10) = 0", "arrive(30, 1, 0, 20) = 1", "arrive(40, 2, 0, 30) = 2",
                "addLine(0, 1, 7) = 1", "copies(0, 0) = 1", "addLine(1, 2, 7) = 1",
                "copies(0, 0) = 2", "addLine(2, 3, 7) = 1", "copies(0, 0) = 3");
    }

    private static void refusedCopies(Results results) {
        results.refused("promise 22 | Throws `UnsupportedOperationException` if the line is not in"
                + " the talk | a signature, a quote, a double and a stray line", Boxes.SMALL,
                "copies(0, 1)" + UNFIT, "copies(0, 3)" + UNFIT, "copies(1, 0)" + UNFIT,
                "copies(1, 1)" + UNFIT, "copies(1, 3)" + UNFIT, "copies(2, 0)" + UNFIT,
                "copies(2, 2)" + UNFIT);
        results.rows("promise 22 | Throws `UnsupportedOperationException` if the line is not in the"
                + " talk | but not for a new and a recovered one, until they are others",
                "arrive(20, 0, 0, 10) = 0", "addLine(0, 1, 7) = 1", "addLine(0, 0, 8) = 2",
                "copies(0, 0) = 1", "copies(0, 1) = 1", "arrive(21, 0, 0, 0) = 1",
                "addLine(1, 0, 8) = 1", "copies(0, 1)" + UNFIT, "copies(1, 0)" + UNFIT,
                "arrive(10, 1, 0, 0) = 2", "copies(0, 0)" + UNFIT, "addLine(2, 0, 7) = 1",
                "copies(0, 0)" + UNFIT, "copies(2, 0) = 2");
    }
}
