import java.util.ArrayList;
import java.util.List;

/**
 * The bounds that the sections "What it is", "Terms" and "Exceptions" name. The name of each test
 * tells the section, the words of the sentence, and the case of it.
 */
final class TermsBoundsTest {
    private static final String ILLEGAL = " = throws.IllegalArgumentException";
    private static final String STATE = " = throws.IllegalStateException";
    private static final String NO_SUCH = " = throws.IndexOutOfBoundsException";
    private static final String NONE = " = throws.NoSuchElementException";
    private static final String UNFIT = " = throws.UnsupportedOperationException";

    private TermsBoundsTest() {
    }

    static void run(Results results) {
        calls(results);
        questions(results);
        numbersAndDatesOfMails(results);
        authorsAndSubjects(results);
        answeredDates(results);
        parents(results);
        lines(results);
        whatCanBePartners(results);
        orderOfPartners(results);
        choiceOfPartners(results);
        origins(results);
        signatures(results);
        signaturesOfOthers(results);
        kinds(results);
        recovered(results);
        doubles(results);
        talk(results);
        threads(results);
        exceptions(results);
    }

    private static void calls(Results results) {
        String sentence = "what it is | An object is used for at most 512 calls after it has been"
                + " made | each of 512 is answered, ";
        results.record(sentence + "on a full box", faultsOf512(Boxes.FULL, "alignedByTrying(9)",
                "talk()", "answers(1, 0)", "talkByOrigins()", "copies(1, 0)", "newShare()",
                "rootByRounds(4)", "kind(9, 7)"));
        results.record(sentence + "of which the last ones fill the box",
                faultsOf512(Boxes.join(questionsAhead(), Boxes.FULL), "talk()"));
        for (String call : new String[] {"arrive(20, 0, 0, 0)", "mails()", "lines(0)",
            "word(0, 0)", "parent(1)", "missing()", "aligned(1)", "alignedByTrying(1)",
            "partner(1, 0)", "originMail(1, 0)", "originLine(1, 0)", "kind(0, 0)", "signature(0)",
            "answersMail(1, 2)", "answersLine(1, 2)", "answers(0, 2)", "talk()",
            "talkByOrigins()", "copies(0, 0)", "root(1)", "rootByRounds(1)", "threads()",
            "size(0)", "newShare()", "meanSize()"}) {
            results.record(sentence + "all of them " + call, faultsOf512(Boxes.SMALL, call));
        }
        results.record(sentence + "all but one mails()",
                faultsOf512(Boxes.ONE_MAIL, "mails()"));
        results.record(sentence + "lines that come and go", faultsOf512(Boxes.SMALL,
                "addLine(0, 0, 5)", "removeLine(0)"));
    }

    private static String[] questionsAhead() {
        String[] questions = new String[512 - Boxes.FULL.length];
        for (int asked = 0; asked < questions.length; asked++) {
            questions[asked] = asked % 2 == 0 ? "meanSize()" : "lines(0)";
        }
        return questions;
    }

    /** Makes the first calls, then the others again and again, up to 512 in all. */
    private static String faultsOf512(String[] first, String... others) {
        TalkRebuilder reader = new TalkRebuilder();
        PlainReader plain = new PlainReader();
        StringBuilder faults = new StringBuilder();
        for (int made = 0; made < 512; made++) {
            String call = made < first.length ? first[made]
                    : others[(made - first.length) % others.length];
            String got = Calls.answer(reader, call);
            if (!got.equals(Calls.answer(plain, call))) {
                faults.append("  call ").append(made + 1).append(": ").append(call)
                        .append(" answered ").append(got).append('\n');
            }
        }
        return faults.toString();
    }

    private static void questions(Results results) {
        List<String> rows = new ArrayList<>(List.of(Boxes.FULL));
        for (String name : Calls.ASK_ALL) {
            rows.add(name + "()");
        }
        for (String name : Calls.ASK_MAIL) {
            rows.addAll(List.of(name + "(0)", name + "(9)", name + "(5)", name + "(10)"));
        }
        for (String name : Calls.ASK_LINE) {
            rows.addAll(List.of(name + "(0, 0)", name + "(0, 7)", name + "(9, 0)",
                    name + "(9, 7)", name + "(4, 3)", name + "(9, 8)"));
        }
        results.rows("terms | and all other calls ask | all of them, on a full box",
                rows.toArray(new String[0]));
    }

    private static void numbersAndDatesOfMails(Results results) {
        results.rows("terms | At most 10 mails are numbered from 0 in the order in which they"
                + " arrive. | 0 to 9, against the order of dates, and no eleventh",
                "arrive(99, 0, 0, 0) = 0", "arrive(90, 0, 0, 0) = 1", "arrive(80, 0, 0, 0) = 2",
                "arrive(70, 0, 0, 0) = 3", "arrive(60, 0, 0, 0) = 4", "arrive(50, 0, 0, 0) = 5",
                "arrive(40, 0, 0, 0) = 6", "arrive(30, 0, 0, 0) = 7", "arrive(20, 0, 0, 0) = 8",
                "mails() = 9", "lines(9)" + NO_SUCH, "arrive(1, 0, 0, 0) = 9", "mails() = 10",
                "lines(9) = 0", "arrive(10, 0, 0, 0)" + STATE, "mails() = 10",
                "lines(10)" + NO_SUCH, "lines(-1)" + NO_SUCH);
        results.rows("terms | A mail has a date from 1 to 99 | both ends",
                "arrive(0, 0, 0, 0)" + ILLEGAL, "arrive(100, 0, 0, 0)" + ILLEGAL,
                "arrive(1, 0, 0, 0) = 0", "arrive(99, 0, 0, 0) = 1");
        results.rows("terms | which no other mail has | the first, the last and one that left a"
                + " gap",
                "arrive(1, 0, 0, 0) = 0", "arrive(99, 0, 0, 50) = 1", "arrive(98, 0, 0, 0) = 2",
                "arrive(1, 1, 1, 0)" + ILLEGAL, "arrive(99, 1, 1, 0)" + ILLEGAL,
                "arrive(98, 1, 1, 0)" + ILLEGAL, "arrive(50, 0, 0, 0) = 3",
                "arrive(50, 0, 0, 0)" + ILLEGAL, "arrive(97, 0, 0, 0) = 4",
                "arrive(2, 0, 0, 0) = 5");
    }

    private static void authorsAndSubjects(Results results) {
        results.rows("terms | an author from 0 to 5 | both ends are taken and are not one author",
                "arrive(10, -1, 0, 0)" + ILLEGAL, "arrive(10, 6, 0, 0)" + ILLEGAL,
                "arrive(10, 0, 0, 0) = 0", "arrive(11, 5, 0, 0) = 1", "addLine(0, 0, 7) = 1",
                "addLine(1, 0, 7) = 1", "signature(0) = 0", "signature(1) = 0",
                "arrive(12, 5, 0, 0) = 2", "addLine(2, 0, 7) = 1", "signature(0) = 0",
                "signature(1) = 1", "arrive(13, 0, 0, 0) = 3", "addLine(3, 0, 7) = 1",
                "signature(0) = 1");
        results.rows("terms | a subject from 0 to 9 | both ends are taken and are not one subject",
                "arrive(10, 0, -1, 0)" + ILLEGAL, "arrive(10, 0, 10, 0)" + ILLEGAL,
                "arrive(10, 0, 0, 0) = 0", "arrive(11, 0, 9, 10) = 1", "arrive(12, 0, 9, 11) = 2",
                "arrive(13, 0, 0, 10) = 3", "root(1) = 1", "root(2) = 1", "root(3) = 0");
    }

    private static void answeredDates(Results results) {
        results.rows("terms | possibly the date of the mail that it answers, which is less than"
                + " its own one | one less, the same, one more",
                "arrive(1, 0, 0, 1)" + ILLEGAL, "arrive(1, 0, 0, 2)" + ILLEGAL,
                "arrive(2, 0, 0, 2)" + ILLEGAL, "arrive(2, 0, 0, 3)" + ILLEGAL,
                "arrive(99, 0, 0, 99)" + ILLEGAL, "arrive(98, 0, 0, 99)" + ILLEGAL,
                "mails() = 0", "arrive(1, 0, 0, 0) = 0", "arrive(2, 0, 0, 1) = 1",
                "arrive(99, 0, 0, 98) = 2", "parent(1) = 0", "parent(2)" + NONE, "missing() = 1");
        StringBuilder faults = new StringBuilder();
        for (int date = 1; date <= 99; date++) {
            for (int answered = -2; answered <= 101; answered++) {
                String call = "arrive(" + date + ", 0, 0, " + answered + ")";
                boolean fits = answered >= 0 && answered < date;
                String due = fits ? "0" : "throws.IllegalArgumentException";
                if (!Calls.answer(new TalkRebuilder(), call).equals(due)) {
                    faults.append("  ").append(call).append(" is not ").append(due).append('\n');
                }
            }
        }
        results.record("terms | which is less than its own one | each date with each other",
                faults.toString());
    }

    private static void parents(Results results) {
        results.rows("terms | The mail with that date is its parent, as soon as it has arrived;"
                + " until then, the parent is missing. | of two mails, arriving as the last",
                "arrive(99, 0, 0, 98) = 0", "arrive(97, 0, 0, 0) = 1", "addLine(0, 1, 7) = 1",
                "parent(0)" + NONE, "missing() = 1", "kind(0, 0) = r",
                "arrive(98, 0, 0, 97) = 2", "parent(0) = 2", "missing() = 0", "kind(0, 0) = x",
                "parent(2) = 1");
        results.rows("terms | as soon as it has arrived | as the tenth mail",
                Boxes.join(Boxes.answersToDateOne(9), new String[] {
                    "missing() = 1", "parent(0)" + NONE, "parent(8)" + NONE,
                    "arrive(1, 0, 0, 0) = 9", "missing() = 0", "parent(0) = 9", "parent(8) = 9",
                    "parent(9)" + NONE}));
        results.rows("terms | A mail that answers none has no parent, and none is missing. | first"
                + " and last mail, with lines of 1 mark",
                "arrive(1, 0, 0, 0) = 0", "parent(0)" + NONE, "missing() = 0",
                "addLine(0, 1, 7) = 1", "kind(0, 0) = x", "arrive(99, 0, 0, 0) = 1",
                "parent(1)" + NONE, "missing() = 0", "addLine(1, 1, 7) = 1", "kind(1, 0) = x",
                "talk() = 0");
    }

    private static void lines(Results results) {
        results.rows("terms | A mail has at most 8 lines, numbered from 0. | 0 to 7, no ninth,"
                + " and none of the mail beside",
                Boxes.join(Boxes.mails(3), Boxes.lines(1, 7, 0, 50), new String[] {
                    "lines(1) = 7", "word(1, 7)" + NO_SUCH, "addLine(1, 0, 57) = 8",
                    "addLine(1, 0, 58)" + STATE, "lines(1) = 8", "word(1, 0) = 50",
                    "word(1, 7) = 57", "word(1, 8)" + NO_SUCH, "word(1, -1)" + NO_SUCH,
                    "lines(0) = 0", "lines(2) = 0", "word(0, 0)" + NO_SUCH,
                    "word(0, 7)" + NO_SUCH, "word(0, 8)" + NO_SUCH, "word(2, 0)" + NO_SUCH,
                    "word(2, -1)" + NO_SUCH, "addLine(0, 0, 41) = 1", "addLine(2, 0, 42) = 1",
                    "word(0, 8)" + NO_SUCH, "word(2, -1)" + NO_SUCH}));
        results.rows("terms | A line has marks, 0 to 3 of them | both ends",
                "arrive(10, 0, 0, 0) = 0", "addLine(0, -1, 7)" + ILLEGAL,
                "addLine(0, 4, 7)" + ILLEGAL, "addLine(0, 0, 7) = 1", "addLine(0, 3, 7) = 2");
        results.rows("terms | and a word from 1 to 99 | both ends, and they are not one word",
                "arrive(10, 0, 0, 0) = 0", "arrive(20, 0, 0, 10) = 1",
                "addLine(0, 0, 0)" + ILLEGAL, "addLine(0, 0, 100)" + ILLEGAL,
                "addLine(0, 0, 1) = 1", "addLine(1, 1, 99) = 1", "kind(1, 0) = x",
                "addLine(0, 0, 99) = 2", "kind(1, 0) = q", "word(0, 0) = 1", "word(0, 1) = 99");
        results.rows("terms | A line with marks quotes. | 0 marks don't, 1 to 3 do",
                "arrive(10, 0, 0, 0) = 0", "addLine(0, 0, 7) = 1", "addLine(0, 1, 7) = 2",
                "addLine(0, 2, 7) = 3", "addLine(0, 3, 7) = 4", "kind(0, 0) = n",
                "kind(0, 1) = x", "kind(0, 2) = x", "kind(0, 3) = x");
    }

    private static void whatCanBePartners(Results results) {
        results.rows("terms | The lines of a mail that quote are aligned with lines of its parent,"
                + " if it has one | none is answered, the parent is missing, or it has no lines",
                "arrive(20, 0, 0, 10) = 0", "arrive(30, 1, 0, 0) = 1", "arrive(40, 2, 0, 30) = 2",
                "aligned(0) = 0", "alignedByTrying(0) = 0",
                "addLine(0, 1, 7) = 1", "addLine(1, 1, 7) = 1", "addLine(2, 2, 7) = 1",
                "aligned(0) = 0", "alignedByTrying(0) = 0", "partner(0, 0)" + NONE,
                "aligned(1) = 0", "alignedByTrying(1) = 0", "partner(1, 0)" + NONE,
                "aligned(2) = 1", "alignedByTrying(2) = 1", "partner(2, 0) = 0",
                "removeLine(1) = 0", "aligned(2) = 0", "alignedByTrying(2) = 0",
                "partner(2, 0)" + NONE, "arrive(10, 3, 0, 0) = 3", "aligned(0) = 0",
                "addLine(3, 0, 7) = 1", "aligned(0) = 1", "partner(0, 0) = 0");
        int[] words = {1, 2, 50, 98, 99};
        StringBuilder faults = new StringBuilder();
        for (int marks = 0; marks <= 3; marks++) {
            for (int parentMarks = 0; parentMarks <= 3; parentMarks++) {
                for (int word : words) {
                    for (int parentWord : words) {
                        faults.append(pairFaults(marks, word, parentMarks, parentWord));
                    }
                }
            }
        }
        results.record("terms | a line can be the partner of a line that quotes if it has the same"
                + " word, and one mark less | all marks and words at both ends",
                faults.toString());
    }

    private static String pairFaults(int marks, int word, int parentMarks, int parentWord) {
        TalkRebuilder reader = new TalkRebuilder();
        reader.arrive(10, 0, 0, 0);
        reader.arrive(20, 1, 0, 10);
        reader.addLine(0, parentMarks, parentWord);
        reader.addLine(1, marks, word);
        boolean pairs = marks > 0 && marks == parentMarks + 1 && word == parentWord;
        String due = pairs ? "0 1 1" : "throws.NoSuchElementException 0 0";
        String got = Calls.answer(reader, "partner(1, 0)") + " " + reader.aligned(1) + " "
                + reader.alignedByTrying(1);
        return got.equals(due) ? "" : "  marks " + marks + " word " + word + " on marks "
                + parentMarks + " word " + parentWord + ": " + got + ", due is " + due + "\n";
    }

    private static void orderOfPartners(Results results) {
        results.rows("terms | partners of lines that are one behind the other are one behind the"
                + " other, too | two lines the other way round, and the same way",
                "arrive(10, 0, 0, 0) = 0", "arrive(20, 1, 0, 10) = 1", "arrive(21, 2, 0, 10) = 2",
                "addLine(0, 0, 7) = 1", "addLine(0, 0, 8) = 2",
                "addLine(1, 1, 8) = 1", "addLine(1, 1, 7) = 2",
                "addLine(2, 1, 7) = 1", "addLine(2, 1, 8) = 2",
                "aligned(1) = 1", "alignedByTrying(1) = 1", "aligned(2) = 2",
                "alignedByTrying(2) = 2");
        results.rows("terms | each one behind the partner of the line before that has one | two"
                + " lines don't share one, and lines without partners between don't matter",
                "arrive(10, 0, 0, 0) = 0", "arrive(20, 1, 0, 10) = 1",
                "addLine(0, 0, 7) = 1", "addLine(1, 1, 7) = 1", "addLine(1, 0, 9) = 2",
                "addLine(1, 1, 60) = 3", "addLine(1, 1, 7) = 4", "partner(1, 0) = 0",
                "partner(1, 3)" + NONE, "aligned(1) = 1", "addLine(0, 0, 8) = 2",
                "partner(1, 3)" + NONE, "addLine(0, 0, 7) = 3", "partner(1, 0) = 0",
                "partner(1, 3) = 2", "aligned(1) = 2");
        results.rows("terms | each one behind the partner of the line before | the first line with"
                + " the last one leaves none for the others",
                Boxes.join(new String[] {"arrive(10, 0, 0, 0)", "arrive(20, 1, 0, 10)"},
                Boxes.lines(0, 7, 0, 10), new String[] {"addLine(0, 0, 7) = 8",
                    "addLine(1, 1, 7) = 1", "addLine(1, 1, 7) = 2", "partner(1, 0) = 7",
                    "partner(1, 1)" + NONE, "aligned(1) = 1", "alignedByTrying(1) = 1"}));
    }

    private static void choiceOfPartners(Results results) {
        results.rows("terms | The alignment is one with the most partners | 2 for later lines go"
                + " ahead of 1 for the first, as 7 do",
                Boxes.join(new String[] {"arrive(10, 0, 0, 0)", "arrive(20, 1, 0, 10)",
                    "arrive(30, 2, 0, 10)"}, Boxes.lines(0, 8, 0, 10), new String[] {
                        "addLine(1, 1, 12) = 1", "addLine(1, 1, 10) = 2", "partner(1, 0) = 2",
                        "partner(1, 1)" + NONE, "addLine(1, 1, 11) = 3", "partner(1, 0)" + NONE,
                        "partner(1, 1) = 0", "partner(1, 2) = 1", "aligned(1) = 2",
                        "addLine(2, 1, 17) = 1"}, Boxes.lines(2, 7, 1, 10), new String[] {
                            "aligned(2) = 7", "alignedByTrying(2) = 7", "partner(2, 0)" + NONE,
                            "partner(2, 1) = 0", "partner(2, 7) = 6"}));
        results.rows("terms | of several, it is the one in which the line with the lowest number"
                + " has the partner with the lowest number | 8 that could be",
                Boxes.join(new String[] {"arrive(20, 1, 0, 10)", "addLine(0, 1, 7)",
                    "arrive(10, 0, 0, 0)"}, same(1, 8, 0, 7), new String[] {
                        "partner(0, 0) = 0", "addLine(0, 1, 7) = 2", "partner(0, 0) = 0",
                        "partner(0, 1) = 1"}));
        results.rows("terms | and none only if there is no other way | 8 lines that could have the"
                + " one partner",
                Boxes.join(new String[] {"arrive(10, 0, 0, 0)", "addLine(0, 0, 7)",
                    "arrive(20, 1, 0, 10)"}, same(1, 8, 1, 7), new String[] {
                        "aligned(1) = 1", "partner(1, 0) = 0", "partner(1, 1)" + NONE,
                        "partner(1, 7)" + NONE}));
        results.rows("terms | then the same for the next line, and so on | up to the last line",
                Boxes.join(new String[] {"arrive(10, 0, 0, 0)", "arrive(20, 1, 0, 10)",
                    "addLine(0, 0, 7)", "addLine(0, 0, 8)", "addLine(0, 0, 7)"},
                same(0, 5, 0, 8), new String[] {"addLine(1, 1, 7)", "addLine(1, 1, 9)",
                    "addLine(1, 1, 8)", "partner(1, 0) = 0", "partner(1, 2) = 1",
                    "addLine(1, 1, 7) = 4", "partner(1, 2) = 1", "partner(1, 3) = 2"},
                same(1, 4, 1, 8), new String[] {"aligned(1) = 7", "partner(1, 2) = 1",
                    "partner(1, 4) = 3", "partner(1, 5) = 4", "partner(1, 6) = 5",
                    "partner(1, 7) = 6"}));
    }

    /** Adds the same line so many times. */
    private static String[] same(int mail, int count, int marks, int word) {
        String[] calls = new String[count];
        for (int line = 0; line < count; line++) {
            calls[line] = "addLine(" + mail + ", " + marks + ", " + word + ")";
        }
        return calls;
    }

    private static void origins(Results results) {
        results.rows("terms | The origin of a line without marks is the line itself. | first and"
                + " last line, with the parent's same words",
                Boxes.join(new String[] {"arrive(10, 0, 0, 0)", "arrive(20, 1, 0, 10)"},
                Boxes.lines(0, 8, 0, 10), Boxes.lines(1, 8, 0, 10), new String[] {
                    "originMail(1, 0) = 1", "originLine(1, 0) = 0", "originMail(1, 7) = 1",
                    "originLine(1, 7) = 7", "originMail(0, 7) = 0", "originLine(0, 7) = 7"}));
        results.rows("terms | The origin of a line that quotes and has a partner is the origin of"
                + " its partner | over 1, 2 and 3 steps",
                "arrive(40, 3, 0, 30) = 0", "arrive(30, 2, 0, 20) = 1", "arrive(20, 1, 0, 10) = 2",
                "arrive(10, 0, 0, 0) = 3", "addLine(0, 3, 7) = 1", "addLine(1, 2, 7) = 1",
                "addLine(2, 1, 7) = 1", "originMail(0, 0) = 2", "originMail(1, 0) = 2",
                "addLine(3, 0, 6) = 1", "addLine(3, 0, 7) = 2", "originMail(0, 0) = 3",
                "originLine(0, 0) = 1", "originMail(1, 0) = 3", "originLine(1, 0) = 1",
                "originMail(2, 0) = 3", "originLine(2, 0) = 1", "originMail(3, 1) = 3",
                "removeLine(2) = 0", "originMail(0, 0) = 1", "originLine(0, 0) = 0",
                "removeLine(1) = 0", "originMail(0, 0) = 0", "originLine(0, 0) = 0");
        results.rows("terms | one without a partner is its own origin | with 1, 2 and 3 marks",
                "arrive(10, 0, 0, 0) = 0", "arrive(20, 1, 0, 10) = 1", "addLine(0, 0, 6) = 1",
                "addLine(1, 1, 7) = 1", "addLine(1, 2, 7) = 2", "addLine(1, 3, 7) = 3",
                "originMail(1, 0) = 1", "originLine(1, 0) = 0", "originMail(1, 1) = 1",
                "originLine(1, 1) = 1", "originMail(1, 2) = 1", "originLine(1, 2) = 2");
    }

    private static void signatures(Results results) {
        results.rows("terms | its last lines, as many as possible, but at most 3 | with 0 to 5"
                + " shared last lines",
                "arrive(10, 2, 0, 0) = 0", "arrive(20, 2, 0, 0) = 1",
                "addLine(0, 0, 1)", "addLine(0, 0, 2)", "addLine(0, 0, 3)", "addLine(0, 0, 4)",
                "addLine(0, 0, 5)", "signature(0) = 0", "signature(1) = 0",
                "addLine(1, 0, 5) = 1", "signature(0) = 1", "signature(1) = 1",
                "removeLine(1) = 0", "addLine(1, 0, 4)", "addLine(1, 0, 5)", "signature(0) = 2",
                "signature(1) = 2", "removeLine(1) = 1", "removeLine(1) = 0",
                "addLine(1, 0, 3)", "addLine(1, 0, 4)", "addLine(1, 0, 5)", "signature(0) = 3",
                "signature(1) = 3", "removeLine(1)", "removeLine(1)", "removeLine(1) = 0",
                "addLine(1, 0, 2)", "addLine(1, 0, 3)", "addLine(1, 0, 4)", "addLine(1, 0, 5)",
                "signature(0) = 3", "signature(1) = 3", "removeLine(1)", "removeLine(1)",
                "removeLine(1)", "removeLine(1) = 0", "addLine(1, 0, 1)", "addLine(1, 0, 2)",
                "addLine(1, 0, 3)", "addLine(1, 0, 4)", "addLine(1, 0, 5) = 5",
                "signature(0) = 3", "signature(1) = 3");
        results.rows("terms | which all are without marks | a mark on the last, the second and the"
                + " third line from the end",
                "arrive(10, 2, 0, 0) = 0", "arrive(20, 2, 0, 0) = 1",
                "addLine(0, 1, 3)", "addLine(0, 0, 4)", "addLine(0, 0, 5)",
                "addLine(1, 0, 3)", "addLine(1, 0, 4)", "addLine(1, 0, 5)",
                "signature(0) = 2", "signature(1) = 2", "addLine(0, 1, 6)", "addLine(1, 0, 6)",
                "signature(0) = 0", "signature(1) = 0", "addLine(0, 0, 7)", "addLine(1, 0, 7)",
                "signature(0) = 1", "signature(1) = 1");
        results.rows("terms | which are without marks, too | the same marks in both mails",
                "arrive(10, 2, 0, 0) = 0", "arrive(20, 2, 0, 0) = 1",
                "addLine(0, 3, 6)", "addLine(1, 3, 6)", "signature(0) = 0", "signature(1) = 0",
                "addLine(0, 0, 7)", "addLine(1, 0, 7)", "signature(0) = 1", "signature(1) = 1",
                "addLine(0, 1, 8)", "addLine(1, 1, 8)", "signature(0) = 0", "signature(1) = 0");
    }

    private static void signaturesOfOthers(Results results) {
        results.rows("terms | with the same words in the same order | words one beside, and the"
                + " order turned round",
                "arrive(10, 2, 0, 0) = 0", "arrive(20, 2, 0, 0) = 1", "arrive(30, 2, 0, 0) = 2",
                "addLine(0, 0, 5)", "addLine(0, 0, 6)", "addLine(1, 0, 6)", "addLine(1, 0, 5)",
                "addLine(2, 0, 6)", "addLine(2, 0, 7)", "signature(0) = 0", "signature(1) = 0",
                "signature(2) = 0", "removeLine(2) = 1", "signature(0) = 1", "signature(1) = 0");
        results.rows("terms | as the last lines of another mail of this author | not of the mail"
                + " itself, not of the authors beside, and of mails of 1, 2 and 3 lines",
                "arrive(10, 2, 0, 0) = 0", "addLine(0, 0, 5)", "addLine(0, 0, 5)",
                "addLine(0, 0, 5) = 3", "signature(0) = 0", "arrive(11, 1, 0, 0) = 1",
                "addLine(1, 0, 5) = 1", "arrive(12, 3, 0, 0) = 2", "addLine(2, 0, 5) = 1",
                "signature(0) = 0", "arrive(13, 2, 0, 0) = 3", "signature(0) = 0",
                "signature(3) = 0", "addLine(3, 0, 5) = 1", "signature(0) = 1",
                "signature(3) = 1", "addLine(3, 0, 5) = 2", "signature(0) = 2",
                "signature(3) = 2", "addLine(3, 0, 5) = 3", "signature(0) = 3",
                "signature(3) = 3", "talk() = 2");
        results.rows("terms | another mail of this author | the first for the tenth, and the tenth"
                + " for the first",
                Boxes.join(Boxes.mails(10), new String[] {"addLine(0, 0, 7)", "addLine(9, 0, 7)",
                    "signature(0) = 1", "signature(9) = 1", "signature(5) = 0"}));
    }

    private static void kinds(Results results) {
        results.rows("terms | A line without marks is of the kind 's' if it belongs to the"
                + " signature of its mail, otherwise 'n', new. | the line ahead of 3, of 1 and of"
                + " none",
                "arrive(10, 2, 0, 0) = 0", "arrive(20, 2, 0, 0) = 1",
                "addLine(0, 0, 1)", "addLine(0, 0, 2)", "addLine(0, 0, 3)", "addLine(0, 0, 4)",
                "kind(0, 3) = n", "addLine(1, 0, 4) = 1", "kind(0, 2) = n", "kind(0, 3) = s",
                "kind(1, 0) = s", "addLine(1, 0, 1)", "kind(1, 0) = n", "kind(1, 1) = n",
                "addLine(1, 0, 2)", "addLine(1, 0, 3)", "addLine(1, 0, 4) = 5",
                "kind(0, 0) = n", "kind(0, 1) = s", "kind(0, 2) = s", "kind(0, 3) = s",
                "kind(1, 0) = n", "kind(1, 1) = n", "kind(1, 2) = s", "kind(1, 4) = s");
        results.rows("terms | A line that quotes is of the kind 'q' if it has a partner. | with 1,"
                + " 2 and 3 marks",
                "arrive(10, 0, 0, 0) = 0", "arrive(20, 1, 0, 10) = 1", "addLine(0, 0, 7) = 1",
                "addLine(0, 1, 7) = 2", "addLine(0, 2, 7) = 3", "addLine(1, 1, 7) = 1",
                "addLine(1, 2, 7) = 2", "addLine(1, 3, 7) = 3", "kind(1, 0) = q",
                "kind(1, 1) = q", "kind(1, 2) = q", "removeLine(0) = 2", "kind(1, 2) = x",
                "kind(1, 1) = q", "removeLine(0) = 1", "kind(1, 1) = x", "kind(1, 0) = q",
                "removeLine(0) = 0", "kind(1, 0) = x");
        results.rows("terms | All other lines that quote are of the kind 'x', stray. | 1 mark with"
                + " a parent or none answered, 2 and 3 marks with one missing",
                "arrive(10, 0, 0, 0) = 0", "arrive(20, 1, 0, 10) = 1", "arrive(30, 2, 0, 25) = 2",
                "addLine(0, 1, 7) = 1", "kind(0, 0) = x", "addLine(1, 1, 7) = 1",
                "kind(1, 0) = x", "addLine(2, 2, 7) = 1", "kind(2, 0) = x",
                "addLine(2, 3, 7) = 2", "kind(2, 1) = x");
    }

    private static void recovered(Results results) {
        results.rows("terms | One with 1 mark, whose mail answers a mail that is missing, is of the"
                + " kind 'r', recovered | 0 to 3 marks, and the parent missing or not",
                "arrive(30, 0, 0, 29) = 0", "addLine(0, 0, 7) = 1", "addLine(0, 2, 7) = 2",
                "addLine(0, 3, 7) = 3", "addLine(0, 1, 7) = 4", "kind(0, 0) = n",
                "kind(0, 1) = x", "kind(0, 2) = x", "kind(0, 3) = r", "arrive(28, 1, 0, 0) = 1",
                "kind(0, 3) = r", "arrive(31, 1, 0, 0) = 2", "kind(0, 3) = r",
                "arrive(29, 1, 0, 0) = 3", "kind(0, 3) = x");
        results.rows("terms | 'r', recovered | 8 lines of a mail, and of the dates 1 and 98",
                Boxes.join(new String[] {"arrive(2, 0, 0, 1)", "arrive(99, 1, 0, 98)"},
                Boxes.lines(0, 8, 1, 10), Boxes.lines(1, 8, 1, 10), new String[] {
                    "kind(0, 0) = r", "kind(0, 7) = r", "kind(1, 0) = r", "kind(1, 7) = r",
                    "talk() = 16", "newShare() = 1.0"}));
    }

    private static void doubles(Results results) {
        results.rows("terms | if no line with 1 mark and the same word is in a mail with a lower"
                + " date that answers the same missing mail | the date one lower, one higher",
                "arrive(50, 0, 0, 20) = 0", "addLine(0, 1, 7) = 1", "kind(0, 0) = r",
                "arrive(51, 1, 0, 20) = 1", "addLine(1, 1, 7) = 1", "kind(0, 0) = r",
                "kind(1, 0) = d", "arrive(49, 2, 0, 20) = 2", "kind(0, 0) = r",
                "addLine(2, 1, 7) = 1", "kind(2, 0) = r", "kind(0, 0) = d", "kind(1, 0) = d",
                "talk() = 1", "removeLine(2) = 0", "kind(0, 0) = r");
        results.rows("terms | 1 mark and the same word | 0, 2 and 3 marks and the words beside"
                + " make no double",
                "arrive(50, 0, 0, 20) = 0", "arrive(40, 1, 0, 20) = 1", "addLine(0, 1, 7) = 1",
                "addLine(1, 0, 7) = 1", "addLine(1, 2, 7) = 2", "addLine(1, 3, 7) = 3",
                "addLine(1, 1, 6) = 4", "addLine(1, 1, 8) = 5", "kind(0, 0) = r",
                "addLine(1, 1, 7) = 6", "kind(0, 0) = d", "kind(1, 5) = r");
        results.rows("terms | that answers the same missing mail | the missing dates beside, and"
                + " none answered",
                "arrive(50, 0, 0, 20) = 0", "arrive(40, 1, 0, 19) = 1", "arrive(41, 2, 0, 21) = 2",
                "arrive(10, 3, 0, 0) = 3", "addLine(0, 1, 7) = 1", "addLine(1, 1, 7) = 1",
                "addLine(2, 1, 7) = 1", "addLine(3, 1, 7) = 1", "kind(0, 0) = r",
                "kind(1, 0) = r", "kind(2, 0) = r", "kind(3, 0) = x", "missing() = 3",
                "talk() = 3");
        results.rows("terms | or ahead of it in this mail | one ahead, seven ahead, none behind",
                Boxes.join(new String[] {"arrive(50, 0, 0, 20)", "addLine(0, 1, 7)"},
                Boxes.lines(0, 6, 1, 10), new String[] {"kind(0, 0) = r", "addLine(0, 1, 7) = 8",
                    "kind(0, 0) = r", "kind(0, 7) = d", "kind(0, 6) = r", "removeLine(0) = 7",
                    "addLine(0, 1, 15) = 8", "kind(0, 6) = r", "kind(0, 7) = d",
                    "kind(0, 0) = r"}));
        results.rows("terms | if there is such a line, it is of the kind 'd', a double. | a line"
                + " that is a double itself makes one, too",
                "arrive(30, 0, 0, 20) = 0", "arrive(40, 1, 0, 20) = 1", "arrive(50, 2, 0, 20) = 2",
                "addLine(0, 1, 7) = 1", "addLine(1, 1, 7) = 1", "addLine(2, 1, 7) = 1",
                "kind(0, 0) = r", "kind(1, 0) = d", "kind(2, 0) = d", "removeLine(0) = 0",
                "kind(1, 0) = r", "kind(2, 0) = d", "removeLine(1) = 0", "kind(2, 0) = r");
    }

    private static void talk(Results results) {
        results.rows("terms | The talk consists of all lines of the kinds 'n' and 'r'. | no lines,"
                + " no talk",
                "talk() = 0", "talkByOrigins() = 0", "arrive(10, 0, 0, 5) = 0", "talk() = 0",
                "talkByOrigins() = 0", "addLine(0, 0, 7) = 1", "talk() = 1",
                "talkByOrigins() = 1", "removeLine(0) = 0", "talk() = 0", "talkByOrigins() = 0");
        results.rows("terms | Every line that was new once is in the talk just once. | quoted by"
                + " nine mails, and over three steps",
                Boxes.join(new String[] {"arrive(1, 0, 0, 0)", "addLine(0, 0, 7)"},
                Boxes.answersToDateOne(9), new String[] {
                    "addLine(1, 1, 7)", "addLine(2, 1, 7)", "addLine(3, 1, 7)", "addLine(4, 1, 7)",
                    "addLine(5, 1, 7)", "addLine(6, 1, 7)", "addLine(7, 1, 7)", "addLine(8, 1, 7)",
                    "addLine(9, 1, 7)", "talk() = 1", "talkByOrigins() = 1"}));
        results.rows("terms | The talk consists of all lines of the kinds 'n' and 'r'. | one line"
                + " after the other of each kind",
                "arrive(10, 1, 0, 5) = 0", "arrive(20, 1, 0, 10) = 1", "talk() = 0",
                "addLine(0, 1, 7) = 1", "kind(0, 0) = r", "talk() = 1",
                "addLine(0, 1, 7) = 2", "kind(0, 1) = d", "talk() = 1",
                "addLine(0, 3, 7) = 3", "kind(0, 2) = x", "talk() = 1",
                "addLine(0, 0, 8) = 4", "kind(0, 3) = n", "talk() = 2",
                "addLine(1, 2, 7) = 1", "kind(1, 0) = q", "talk() = 2",
                "addLine(1, 0, 8) = 2", "kind(1, 1) = s", "kind(0, 3) = s", "talk() = 1",
                "talkByOrigins() = 1");
        results.rows("terms | A new line answers the origin of the line of the kind 'q' that is"
                + " nearest to it of those ahead of it in its mail. | none ahead, one behind, the"
                + " nearer of two, and none of the mail beside",
                "arrive(10, 0, 0, 0) = 0", "arrive(20, 1, 0, 10) = 1", "arrive(30, 2, 0, 20) = 2",
                "addLine(0, 0, 7) = 1", "addLine(0, 0, 8) = 2", "answersLine(0, 0)" + NONE,
                "addLine(1, 0, 20) = 1", "answersLine(1, 0)" + NONE, "addLine(1, 1, 7) = 2",
                "answersLine(1, 0)" + NONE, "addLine(1, 0, 21) = 3", "answersLine(1, 2) = 0",
                "addLine(1, 1, 8) = 4", "answersLine(1, 2) = 0", "addLine(1, 0, 22) = 5",
                "answersLine(1, 4) = 1", "addLine(1, 1, 20) = 6", "addLine(1, 0, 23) = 7",
                "answersLine(1, 6) = 1", "addLine(2, 0, 24) = 1", "answersLine(2, 0)" + NONE,
                "answersMail(2, 0)" + NONE, "answersMail(1, 0)" + NONE);
    }

    private static void threads(Results results) {
        results.rows("terms | The root of a mail is the mail itself if it has no parent, or one"
                + " with another subject | none answered, the parent missing, the subjects beside",
                "arrive(10, 0, 5, 0) = 0", "root(0) = 0", "arrive(20, 0, 5, 9) = 1",
                "root(1) = 1", "arrive(21, 0, 4, 10) = 2", "root(2) = 2",
                "arrive(22, 0, 6, 10) = 3", "root(3) = 3", "arrive(23, 0, 5, 10) = 4",
                "root(4) = 0", "rootByRounds(1) = 1", "rootByRounds(2) = 2",
                "rootByRounds(3) = 3", "rootByRounds(4) = 0");
        results.rows("terms | otherwise it is the root of its parent | through nine parents, each"
                + " arriving after its answer or ahead of it",
                "arrive(20, 0, 5, 19)", "arrive(18, 0, 5, 17)", "arrive(16, 0, 5, 15)",
                "arrive(14, 0, 5, 13)", "arrive(12, 0, 5, 11)", "arrive(19, 0, 5, 18)",
                "arrive(17, 0, 5, 16)", "arrive(15, 0, 5, 14)", "arrive(13, 0, 5, 12)",
                "root(0) = 4", "rootByRounds(0) = 4", "arrive(11, 0, 5, 0) = 9", "root(0) = 9",
                "rootByRounds(0) = 9", "root(4) = 9", "rootByRounds(4) = 9");
        results.rows("terms | A mail that is a root is the head of a thread, to which all mails"
                + " with this root belong. | one mail alone, and a tenth that joins nine",
                Boxes.join(new String[] {"arrive(1, 0, 0, 0)", "threads() = 1", "size(0) = 1"},
                Boxes.answersToDateOne(8), new String[] {"threads() = 1", "size(0) = 9",
                    "size(8) = 9", "arrive(10, 0, 0, 9) = 9", "threads() = 1", "size(0) = 10",
                    "size(9) = 10"}));
    }

    private static void exceptions(Results results) {
        String[] ofEachKind = {
            "arrive(0, 0, 0, 0)" + ILLEGAL, "arrive(20, 0, 0, 0)" + ILLEGAL,
            "addLine(4, 0, 1)" + NO_SUCH, "addLine(0, 4, 1)" + ILLEGAL,
            "removeLine(4)" + NO_SUCH, "removeLine(3)" + STATE, "lines(4)" + NO_SUCH,
            "word(0, 4)" + NO_SUCH, "parent(4)" + NO_SUCH, "parent(3)" + NONE,
            "aligned(4)" + NO_SUCH, "alignedByTrying(4)" + NO_SUCH, "partner(0, 4)" + NO_SUCH,
            "partner(0, 0)" + NONE, "originMail(0, 4)" + NO_SUCH, "originLine(0, 4)" + NO_SUCH,
            "kind(0, 4)" + NO_SUCH, "signature(4)" + NO_SUCH, "answersMail(0, 4)" + NO_SUCH,
            "answersMail(0, 0)" + UNFIT, "answersMail(0, 2)" + NONE,
            "answersLine(0, 4)" + NO_SUCH, "answersLine(0, 0)" + UNFIT,
            "answersLine(0, 2)" + NONE, "answers(0, 4)" + NO_SUCH, "copies(0, 4)" + NO_SUCH,
            "copies(0, 1)" + UNFIT, "root(4)" + NO_SUCH, "rootByRounds(4)" + NO_SUCH,
            "size(4)" + NO_SUCH};
        results.refused("exceptions | A method that throws an exception changes nothing. | each"
                + " exception of each call", Boxes.SMALL, ofEachKind);
        results.rows("exceptions | A method that throws an exception changes nothing. | one after"
                + " the other, on one object", Boxes.join(Boxes.SMALL, ofEachKind));
        results.refused("exceptions | A method that throws an exception changes nothing. | what a"
                + " full box refuses", Boxes.FULL,
                "arrive(2, 0, 0, 0)" + STATE, "arrive(2, 6, 0, 0)" + ILLEGAL,
                "addLine(0, 0, 1)" + STATE, "addLine(9, 3, 99)" + STATE,
                "addLine(9, 4, 99)" + ILLEGAL);
        results.refused("exceptions | A method that throws an exception changes nothing. | means of"
                + " an empty box", Boxes.EMPTY, "newShare() = throws.ArithmeticException",
                "meanSize() = throws.ArithmeticException");
        results.refused("exceptions | If several exceptions apply, the one that is documented"
                + " first is thrown. | on a full box", Boxes.FULL,
                "arrive(50, 0, 0, 0)" + ILLEGAL, "arrive(100, 0, 0, 0)" + ILLEGAL,
                "arrive(2, 0, 0, 2)" + ILLEGAL, "arrive(2, 0, 10, 0)" + ILLEGAL,
                "addLine(10, 4, 1)" + NO_SUCH, "addLine(10, 0, 100)" + NO_SUCH,
                "addLine(-1, -1, 0)" + NO_SUCH, "addLine(0, 4, 1)" + ILLEGAL,
                "addLine(9, 0, 0)" + ILLEGAL);
        results.refused("exceptions | If several exceptions apply, the one that is documented"
                + " first is thrown. | lines that are neither new nor answer a line", Boxes.SMALL,
                "answersMail(0, 0)" + UNFIT, "answersLine(0, 0)" + UNFIT,
                "answersMail(0, 3)" + UNFIT, "answersLine(0, 3)" + UNFIT,
                "answersMail(3, 0)" + NO_SUCH, "answersLine(3, 0)" + NO_SUCH,
                "copies(3, 0)" + NO_SUCH, "partner(3, 0)" + NO_SUCH, "parent(4)" + NO_SUCH,
                "removeLine(4)" + NO_SUCH);
    }
}
