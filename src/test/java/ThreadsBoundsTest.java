/**
 * The bounds that promises 23 to 28 name. The name of each test tells the promise, the words of
 * the sentence, and the case of it.
 */
final class ThreadsBoundsTest {
    private static final String NO_QUOTIENT = " = throws.ArithmeticException";

    private ThreadsBoundsTest() {
    }

    static void run(Results results) {
        roots(results, "promise 23 | ", "root");
        roots(results, "promise 24 | ", "rootByRounds");
        threads(results);
        size(results);
        newShare(results);
        meanSize(results);
    }

    private static void roots(Results results, String promise, String name) {
        String returned = promise + "Returns the number of the root. | ";
        results.mailNumbers(promise, name + "(#)");
        results.rows(returned + "0 for ten mails, and each its own",
                Boxes.join(new String[] {"arrive(1, 0, 0, 0)", name + "(0) = 0"},
                Boxes.answersToDateOne(7), new String[] {name + "(0) = 0", name + "(7) = 0",
                    "arrive(50, 0, 1, 1) = 8", name + "(8) = 8", "arrive(51, 0, 0, 0) = 9",
                    name + "(9) = 9"}));
        results.rows(returned + "9 through ten mails that arrive the last ones first",
                "arrive(99, 0, 9, 98)", "arrive(98, 1, 9, 97)", "arrive(97, 2, 9, 96)",
                "arrive(96, 3, 9, 95)", "arrive(95, 4, 9, 94)", "arrive(94, 5, 9, 93)",
                "arrive(93, 0, 9, 92)", "arrive(92, 0, 9, 91)", "arrive(91, 0, 9, 90)",
                name + "(0) = 8", name + "(8) = 8", "arrive(90, 0, 9, 89) = 9", name + "(0) = 9",
                name + "(1) = 9", name + "(8) = 9", name + "(9) = 9");
        results.rows(returned + "0 through ten mails that arrive in their order",
                "arrive(1, 0, 0, 0)", "arrive(2, 0, 0, 1)", "arrive(3, 0, 0, 2)",
                "arrive(4, 0, 0, 3)", "arrive(5, 0, 0, 4)", "arrive(6, 0, 0, 5)",
                "arrive(7, 0, 0, 6)", "arrive(8, 0, 0, 7)", "arrive(9, 0, 0, 8)",
                "arrive(10, 0, 0, 9) = 9", name + "(9) = 0", name + "(1) = 0", name + "(0) = 0");
        results.rows(returned + "a subject that changes for one mail, in the middle and at the end",
                "arrive(10, 0, 0, 0) = 0", "arrive(20, 0, 1, 10) = 1", "arrive(30, 0, 0, 20) = 2",
                "arrive(40, 0, 0, 30) = 3", "arrive(50, 0, 9, 40) = 4", name + "(0) = 0",
                name + "(1) = 1", name + "(2) = 2", name + "(3) = 2", name + "(4) = 4");
    }

    private static void threads(Results results) {
        results.rows("promise 25 | Returns the number of threads. | 0 without mails, 1 for ten"
                + " mails that answer one another",
                Boxes.join(new String[] {"threads() = 0", "arrive(1, 0, 0, 0) = 0",
                    "threads() = 1"}, Boxes.answersToDateOne(9), new String[] {"threads() = 1"}));
        results.rows("promise 25 | Returns the number of threads. | 10 of mails that answer none,"
                + " with one subject",
                Boxes.join(Boxes.mails(9), new String[] {"threads() = 9",
                    "arrive(10, 0, 0, 0) = 9", "threads() = 10"}));
        results.rows("promise 25 | Returns the number of threads. | 10 of mails of other subjects,"
                + " each answering the one before",
                "arrive(1, 0, 0, 0)", "arrive(2, 0, 1, 1)", "arrive(3, 0, 2, 2)",
                "arrive(4, 0, 3, 3)", "arrive(5, 0, 4, 4)", "arrive(6, 0, 5, 5)",
                "arrive(7, 0, 6, 6)", "arrive(8, 0, 7, 7)", "arrive(9, 0, 8, 8)",
                "arrive(10, 0, 9, 9) = 9", "threads() = 10");
        results.rows("promise 25 | Returns the number of threads. | 9 mails whose parent is"
                + " missing, until it arrives as the tenth",
                Boxes.join(Boxes.answersToDateOne(9), new String[] {"threads() = 9",
                    "arrive(1, 0, 0, 0) = 9", "threads() = 1"}));
        results.rows("promise 25 | Returns the number of threads. | a missing parent arrives for"
                + " two mails, one of them with another subject",
                Boxes.join(new String[] {"arrive(98, 1, 0, 97)", "arrive(99, 1, 1, 97)",
                    "threads() = 2", "arrive(97, 0, 0, 0) = 2", "threads() = 2", "size(0) = 2",
                    "size(1) = 1", "size(2) = 2"}));
    }

    private static void size(Results results) {
        results.mailNumbers("promise 26 | ", "size(#)");
        results.rows("promise 26 | Returns the number of mails. | 1 to 10",
                "arrive(1, 0, 0, 0) = 0", "size(0) = 1", "arrive(2, 0, 0, 1) = 1", "size(0) = 2",
                "size(1) = 2", "arrive(3, 0, 0, 2) = 2", "size(0) = 3", "arrive(4, 0, 0, 1) = 3",
                "size(3) = 4", "arrive(5, 0, 0, 4) = 4", "size(1) = 5", "arrive(6, 0, 0, 1) = 5",
                "size(5) = 6", "arrive(7, 0, 0, 5) = 6", "size(0) = 7", "arrive(8, 0, 0, 7) = 7",
                "size(0) = 8", "arrive(9, 0, 0, 8) = 8", "size(0) = 9", "arrive(10, 0, 0, 9) = 9",
                "size(0) = 10", "size(9) = 10");
        results.rows("promise 26 | Returns the number of mails. | 9 and 1, and 1 of ten alone",
                Boxes.join(Boxes.mails(9), new String[] {"size(0) = 1", "size(8) = 1",
                    "arrive(50, 0, 0, 9) = 9", "size(9) = 2", "size(8) = 2", "size(0) = 1",
                    "size(7) = 1"}));
    }

    private static void newShare(Results results) {
        String returned = "promise 27 | Returns the number of lines of the talk divided by that of"
                + " all lines, both converted to float. | ";
        String thrown = "promise 27 | Throws `ArithmeticException` if there are no lines | ";
        results.refused(thrown + "no mails", Boxes.EMPTY, "newShare()" + NO_QUOTIENT);
        results.refused(thrown + "one mail without lines", Boxes.ONE_MAIL,
                "newShare()" + NO_QUOTIENT);
        results.refused(thrown + "ten mails without lines", Boxes.mails(10),
                "newShare()" + NO_QUOTIENT);
        results.rows(thrown + "not with a line in the first or the last mail alone, but once it is"
                + " removed",
                Boxes.join(Boxes.mails(10), new String[] {"newShare()" + NO_QUOTIENT,
                    "addLine(9, 0, 1) = 1", "newShare() = 1.0", "removeLine(9) = 0",
                    "newShare()" + NO_QUOTIENT, "addLine(0, 1, 1) = 1", "newShare() = 0.0",
                    "removeLine(0) = 0", "newShare()" + NO_QUOTIENT}));
        results.rows(returned + "0 and 1 of one line, and thirds",
                "arrive(10, 0, 0, 0) = 0", "addLine(0, 1, 1) = 1", "newShare() = 0.0",
                "removeLine(0) = 0", "addLine(0, 0, 1) = 1", "newShare() = 1.0",
                "addLine(0, 1, 1) = 2", "newShare() = 0.5", "addLine(0, 1, 1) = 3",
                "newShare() = 0.33333334", "addLine(0, 0, 2) = 4", "removeLine(0) = 3",
                "removeLine(0) = 2", "addLine(0, 0, 2) = 3", "newShare() = 0.6666667");
        results.rows(returned + "80 of 80 lines, 79 of 80, and 72 of 72",
                Boxes.join(Boxes.eightyNewLines(), new String[] {"newShare() = 1.0",
                    "removeLine(9) = 7", "newShare() = 1.0", "addLine(9, 1, 1) = 8",
                    "newShare() = 0.9875"}));
    }

    private static void meanSize(Results results) {
        String returned = "promise 28 | Returns the number of mails divided by that of threads,"
                + " both converted to double. | ";
        results.refused("promise 28 | Throws `ArithmeticException` if there are no mails | a new"
                + " object", Boxes.EMPTY, "meanSize()" + NO_QUOTIENT);
        results.rows("promise 28 | Throws `ArithmeticException` if there are no mails | not with"
                + " one mail without lines, but after a refused one",
                "meanSize()" + NO_QUOTIENT, "arrive(0, 0, 0, 0) = throws.IllegalArgumentException",
                "meanSize()" + NO_QUOTIENT, "arrive(1, 0, 0, 0) = 0", "meanSize() = 1.0");
        results.rows(returned + "ten mails in ten threads",
                Boxes.join(Boxes.mails(10), new String[] {"meanSize() = 1.0"}));
        results.rows(returned + "2 to 10 mails in one thread",
                Boxes.join(new String[] {"arrive(1, 0, 0, 0) = 0"}, Boxes.answersToDateOne(1),
                new String[] {"meanSize() = 2.0", "arrive(50, 0, 0, 1)", "meanSize() = 3.0",
                    "arrive(51, 0, 0, 1)", "arrive(52, 0, 0, 1)", "arrive(53, 0, 0, 1)",
                    "arrive(54, 0, 0, 1)", "arrive(55, 0, 0, 1)", "arrive(56, 0, 0, 1)",
                    "meanSize() = 9.0", "arrive(57, 0, 0, 1) = 9", "meanSize() = 10.0"}));
        results.rows(returned + "thirds, in a double's and not a float's digits",
                "arrive(1, 0, 0, 0) = 0", "arrive(2, 0, 0, 0) = 1", "arrive(3, 0, 0, 0) = 2",
                "arrive(4, 0, 0, 1) = 3", "meanSize() = 1.3333333333333333",
                "arrive(5, 0, 0, 1) = 4", "meanSize() = 1.6666666666666667",
                "arrive(6, 0, 0, 1) = 5", "meanSize() = 2.0", "arrive(7, 0, 0, 1) = 6",
                "arrive(8, 0, 0, 1) = 7", "arrive(9, 0, 0, 1) = 8", "arrive(10, 0, 0, 1) = 9",
                "meanSize() = 3.3333333333333335");
    }
}
