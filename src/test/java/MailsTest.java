/** Promises 1 to 9: the mails themselves. */
final class MailsTest {
    private static final String ILLEGAL = " = throws.IllegalArgumentException";
    private static final String FULL = " = throws.IllegalStateException";
    private static final String NO_SUCH = " = throws.IndexOutOfBoundsException";

    private MailsTest() {
    }

    static void run(Results results) {
        newObject(results);
        arrive(results);
        addLine(results);
        removeLine(results);
        mailsLinesWord(results);
        parent(results);
        missing(results);
    }

    private static void newObject(Results results) {
        results.rows("promise 1: a new object has no mails",
                "mails() = 0", "missing() = 0", "talk() = 0", "talkByOrigins() = 0",
                "threads() = 0", "lines(0)" + NO_SUCH, "root(0)" + NO_SUCH,
                "newShare() = throws.ArithmeticException",
                "meanSize() = throws.ArithmeticException");
        twoObjects(results);
    }

    private static void twoObjects(Results results) {
        TalkRebuilder used = new TalkRebuilder();
        TalkRebuilder other = new TalkRebuilder();
        used.arrive(5, 0, 0, 3);
        used.addLine(0, 0, 1);
        boolean apart = other.mails() == 0 && other.missing() == 0 && other.arrive(5, 0, 0, 0) == 0
                && other.lines(0) == 0;
        results.record("promise 1: two objects are apart", apart ? "" : "  they share something");
    }

    private static void arrive(Results results) {
        results.rows("promise 2: mails are numbered as they arrive, in any order of dates",
                "arrive(50, 0, 0, 0) = 0", "arrive(10, 1, 1, 0) = 1", "arrive(99, 5, 9, 98) = 2",
                "arrive(1, 0, 0, 0) = 3", "arrive(2, 0, 0, 1) = 4", "mails() = 5",
                "lines(0) = 0", "lines(4) = 0");
        results.rows("promise 2: each number has its range",
                "arrive(0, 0, 0, 0)" + ILLEGAL, "arrive(100, 0, 0, 0)" + ILLEGAL,
                "arrive(-1, 0, 0, 0)" + ILLEGAL, "arrive(-2147483648, 0, 0, 0)" + ILLEGAL,
                "arrive(2147483647, 0, 0, 0)" + ILLEGAL,
                "arrive(10, -1, 0, 0)" + ILLEGAL, "arrive(10, 6, 0, 0)" + ILLEGAL,
                "arrive(10, 0, -1, 0)" + ILLEGAL, "arrive(10, 0, 10, 0)" + ILLEGAL,
                "arrive(10, 0, 0, -1)" + ILLEGAL, "arrive(10, 0, 0, 10)" + ILLEGAL,
                "arrive(10, 0, 0, 11)" + ILLEGAL, "arrive(1, 0, 0, 1)" + ILLEGAL,
                "mails() = 0", "arrive(10, 5, 9, 9) = 0", "arrive(1, 0, 0, 0) = 1");
        results.rows("promise 2: a date stands once, though an answered date may stand often",
                "arrive(10, 0, 0, 5) = 0", "arrive(10, 1, 1, 0)" + ILLEGAL,
                "arrive(11, 0, 0, 5) = 1", "arrive(5, 0, 0, 0) = 2",
                "arrive(5, 0, 0, 4)" + ILLEGAL, "mails() = 3");
        results.rows("promise 2: at most 10 mails, and wrong numbers are told first",
                "arrive(1, 0, 0, 0) = 0", "arrive(2, 0, 0, 0) = 1", "arrive(3, 0, 0, 0) = 2",
                "arrive(4, 0, 0, 0) = 3", "arrive(5, 0, 0, 0) = 4", "arrive(6, 0, 0, 0) = 5",
                "arrive(7, 0, 0, 0) = 6", "arrive(8, 0, 0, 0) = 7", "arrive(9, 0, 0, 0) = 8",
                "arrive(10, 0, 0, 0) = 9", "arrive(11, 0, 0, 0)" + FULL,
                "arrive(10, 0, 0, 0)" + ILLEGAL, "arrive(11, 6, 0, 0)" + ILLEGAL,
                "mails() = 10", "lines(9) = 0", "lines(10)" + NO_SUCH);
    }

    private static void addLine(Results results) {
        results.rows("promise 3: lines are added at the end of their own mail",
                "arrive(10, 0, 0, 0) = 0", "arrive(20, 1, 0, 0) = 1",
                "addLine(0, 0, 1) = 1", "addLine(1, 3, 99) = 1", "addLine(0, 1, 50) = 2",
                "word(0, 0) = 1", "word(0, 1) = 50", "word(1, 0) = 99",
                "kind(0, 0) = n", "kind(0, 1) = x", "kind(1, 0) = x");
        results.rows("promise 3: each number has its range",
                "addLine(0, 0, 1)" + NO_SUCH, "addLine(0, 4, 0)" + NO_SUCH,
                "arrive(10, 0, 0, 0) = 0",
                "addLine(-1, 0, 1)" + NO_SUCH, "addLine(1, 0, 1)" + NO_SUCH,
                "addLine(-2147483648, 0, 1)" + NO_SUCH, "addLine(2147483647, 0, 1)" + NO_SUCH,
                "addLine(1, 4, 0)" + NO_SUCH,
                "addLine(0, -1, 1)" + ILLEGAL, "addLine(0, 4, 1)" + ILLEGAL,
                "addLine(0, 0, 0)" + ILLEGAL, "addLine(0, 0, 100)" + ILLEGAL,
                "addLine(0, 0, -5)" + ILLEGAL, "lines(0) = 0",
                "addLine(0, 3, 99) = 1", "addLine(0, 0, 1) = 2");
        results.rows("promise 3: at most 8 lines, and wrong numbers are told first",
                "arrive(10, 0, 0, 0) = 0", "arrive(20, 0, 1, 0) = 1",
                "addLine(0, 0, 1) = 1", "addLine(0, 0, 2) = 2", "addLine(0, 0, 3) = 3",
                "addLine(0, 0, 4) = 4", "addLine(0, 0, 5) = 5", "addLine(0, 0, 6) = 6",
                "addLine(0, 0, 7) = 7", "addLine(0, 0, 8) = 8",
                "addLine(0, 0, 9)" + FULL, "addLine(0, 4, 9)" + ILLEGAL,
                "addLine(0, 0, 100)" + ILLEGAL, "addLine(2, 0, 9)" + NO_SUCH,
                "lines(0) = 8", "word(0, 7) = 8", "lines(1) = 0", "addLine(1, 0, 9) = 1");
    }

    private static void removeLine(Results results) {
        results.rows("promise 4: the last line goes",
                "arrive(10, 0, 0, 0) = 0", "addLine(0, 0, 7) = 1", "addLine(0, 2, 8) = 2",
                "removeLine(0) = 1", "lines(0) = 1", "word(0, 0) = 7", "word(0, 1)" + NO_SUCH,
                "addLine(0, 0, 9) = 2", "word(0, 1) = 9", "kind(0, 1) = n",
                "removeLine(0) = 1", "removeLine(0) = 0", "removeLine(0)" + FULL,
                "lines(0) = 0");
        results.rows("promise 4: the mail must be there",
                "removeLine(0)" + NO_SUCH, "arrive(10, 0, 0, 0) = 0",
                "removeLine(1)" + NO_SUCH, "removeLine(-1)" + NO_SUCH,
                "removeLine(-2147483648)" + NO_SUCH, "removeLine(0)" + FULL);
        results.rows("promise 4: the line is gone for all that is asked",
                "arrive(10, 0, 0, 0) = 0", "arrive(20, 0, 0, 10) = 1",
                "addLine(0, 0, 7) = 1", "addLine(1, 1, 7) = 1", "addLine(1, 0, 8) = 2",
                "answers(0, 0) = 1", "copies(0, 0) = 2", "kind(1, 0) = q",
                "removeLine(0) = 0", "kind(1, 0) = x",
                "partner(1, 0) = throws.NoSuchElementException",
                "aligned(1) = 0", "originMail(1, 0) = 1",
                "answersMail(1, 1) = throws.NoSuchElementException", "talk() = 1",
                "addLine(0, 0, 7) = 1", "removeLine(1) = 1", "answers(0, 0) = 0",
                "removeLine(1) = 0", "copies(0, 0) = 1", "talk() = 1");
    }

    private static void mailsLinesWord(Results results) {
        results.rows("promise 5: mails",
                "mails() = 0", "arrive(10, 0, 0, 9) = 0", "mails() = 1",
                "arrive(9, 0, 0, 0) = 1", "mails() = 2", "arrive(9, 0, 0, 0)" + ILLEGAL,
                "mails() = 2");
        results.rows("promise 6: lines",
                "arrive(10, 0, 0, 0) = 0", "arrive(11, 0, 0, 0) = 1", "addLine(1, 1, 1) = 1",
                "addLine(1, 0, 1) = 2", "lines(0) = 0", "lines(1) = 2", "removeLine(1) = 1",
                "lines(1) = 1", "lines(2)" + NO_SUCH, "lines(-1)" + NO_SUCH,
                "lines(10)" + NO_SUCH, "lines(2147483647)" + NO_SUCH);
        results.rows("promise 7: word",
                "word(0, 0)" + NO_SUCH, "arrive(10, 0, 0, 0) = 0", "arrive(11, 0, 0, 0) = 1",
                "word(0, 0)" + NO_SUCH, "addLine(0, 0, 12) = 1", "addLine(0, 2, 13) = 2",
                "addLine(1, 0, 99) = 1", "word(0, 0) = 12", "word(0, 1) = 13",
                "word(1, 0) = 99", "word(0, 2)" + NO_SUCH, "word(0, -1)" + NO_SUCH,
                "word(1, -8)" + NO_SUCH, "word(0, 8)" + NO_SUCH, "word(2, 0)" + NO_SUCH,
                "word(-1, 0)" + NO_SUCH, "word(-2147483648, 2147483647)" + NO_SUCH);
    }

    private static void parent(Results results) {
        String none = " = throws.NoSuchElementException";
        results.rows("promise 8: the parent, as soon as it has arrived",
                "parent(0)" + NO_SUCH, "arrive(30, 0, 0, 20) = 0", "parent(0)" + none,
                "arrive(40, 0, 0, 20) = 1", "arrive(10, 0, 0, 0) = 2", "parent(2)" + none,
                "arrive(20, 0, 5, 10) = 3", "parent(0) = 3", "parent(1) = 3", "parent(3) = 2",
                "parent(2)" + none, "parent(4)" + NO_SUCH, "parent(-1)" + NO_SUCH);
    }

    private static void missing(Results results) {
        results.rows("promise 9: each missing date is counted once",
                "arrive(10, 0, 0, 0) = 0", "missing() = 0",
                "arrive(30, 0, 0, 20) = 1", "missing() = 1",
                "arrive(31, 1, 1, 20) = 2", "missing() = 1",
                "arrive(32, 1, 1, 25) = 3", "missing() = 2",
                "arrive(33, 1, 1, 10) = 4", "missing() = 2",
                "arrive(34, 1, 1, 20) = 5", "missing() = 2",
                "arrive(20, 1, 1, 5) = 6", "missing() = 2",
                "arrive(25, 1, 1, 0) = 7", "missing() = 1",
                "arrive(5, 1, 1, 0) = 8", "missing() = 0");
        results.rows("promise 9: the first mail's missing date counts, too",
                "arrive(30, 0, 0, 20) = 0", "missing() = 1", "arrive(31, 0, 0, 20) = 1",
                "missing() = 1", "arrive(32, 0, 0, 30) = 2", "missing() = 1",
                "arrive(20, 0, 0, 0) = 3", "missing() = 0");
    }
}
