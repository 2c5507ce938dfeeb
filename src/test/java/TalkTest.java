/** Promises 17 to 22: answers, the talk and copies. */
final class TalkTest {
    private static final String NO_SUCH = " = throws.IndexOutOfBoundsException";
    private static final String NONE = " = throws.NoSuchElementException";
    private static final String UNFIT = " = throws.UnsupportedOperationException";

    private TalkTest() {
    }

    static void run(Results results) {
        answered(results);
        answeredOrigins(results);
        wrongAnswered(results);
        answers(results);
        talk(results);
        copies(results);
    }

    private static void answered(Results results) {
        results.rows("promises 17 and 18: the nearest quoted line ahead",
                "arrive(10, 0, 0, 0) = 0", "arrive(20, 1, 0, 10) = 1",
                "addLine(0, 0, 1) = 1", "addLine(0, 0, 2) = 2", "addLine(0, 0, 3) = 3",
                "addLine(1, 0, 90) = 1", "addLine(1, 1, 1) = 2", "addLine(1, 1, 3) = 3",
                "addLine(1, 0, 91) = 4", "addLine(1, 1, 80) = 5", "addLine(1, 0, 92) = 6",
                "answersMail(1, 0)" + NONE, "answersLine(1, 0)" + NONE,
                "answersMail(1, 3) = 0", "answersLine(1, 3) = 2",
                "kind(1, 4) = x", "answersMail(1, 5) = 0", "answersLine(1, 5) = 2",
                "addLine(1, 1, 3) = 7", "kind(1, 6) = x");
        results.rows("promises 17 and 18: recovered lines and other mails are not answered",
                "arrive(10, 0, 0, 5) = 0", "addLine(0, 1, 7) = 1", "addLine(0, 0, 8) = 2",
                "kind(0, 0) = r", "answersMail(0, 1)" + NONE, "answersLine(0, 1)" + NONE,
                "arrive(20, 0, 0, 10) = 1", "addLine(1, 2, 7) = 1", "kind(1, 0) = q",
                "addLine(1, 0, 9) = 2", "answersMail(1, 1) = 0", "answersLine(1, 1) = 0",
                "arrive(30, 0, 0, 20) = 2", "addLine(2, 0, 9) = 1", "addLine(2, 0, 10) = 2",
                "answersMail(2, 1)" + NONE, "answersLine(2, 1)" + NONE);
    }

    private static void answeredOrigins(Results results) {
        results.rows("promises 17 and 18: the origin of the quoted line, not its partner",
                "arrive(30, 2, 0, 20) = 0", "arrive(20, 1, 0, 10) = 1", "arrive(10, 0, 0, 0) = 2",
                "addLine(2, 0, 50) = 1", "addLine(2, 0, 51) = 2",
                "addLine(1, 1, 51) = 1", "addLine(1, 0, 52) = 2",
                "addLine(0, 2, 51) = 1", "addLine(0, 0, 53) = 2", "addLine(0, 1, 52) = 3",
                "addLine(0, 0, 54) = 4",
                "answersMail(0, 1) = 2", "answersLine(0, 1) = 1", "answersMail(0, 3) = 1",
                "answersLine(0, 3) = 1", "answersMail(1, 1) = 2", "answersLine(1, 1) = 1",
                "answers(2, 1) = 2", "answers(1, 0) = 0", "answers(1, 1) = 1",
                "answers(2, 0) = 0");
        results.rows("promises 17 to 19: a line of a signature can be answered",
                "arrive(10, 0, 0, 0) = 0", "arrive(11, 0, 0, 0) = 1", "arrive(20, 1, 0, 10) = 2",
                "addLine(0, 0, 60) = 1", "addLine(1, 0, 60) = 1", "kind(0, 0) = s",
                "addLine(2, 1, 60) = 1", "addLine(2, 0, 61) = 2",
                "answersMail(2, 1) = 0", "answersLine(2, 1) = 0", "answers(0, 0) = 1",
                "answers(1, 0) = 0");
    }

    private static void wrongAnswered(Results results) {
        results.rows("promises 17 and 18: only new lines answer, and which exception is first",
                "answersMail(0, 0)" + NO_SUCH, "answersLine(0, 0)" + NO_SUCH,
                "arrive(10, 0, 0, 5) = 0", "arrive(20, 0, 0, 10) = 1", "arrive(21, 2, 0, 10) = 2",
                "addLine(0, 1, 1) = 1", "addLine(0, 1, 1) = 2", "addLine(0, 0, 2) = 3",
                "addLine(1, 2, 1) = 1", "addLine(1, 1, 9) = 2", "addLine(1, 0, 2) = 3",
                "addLine(2, 0, 4) = 1",
                "kind(0, 0) = r", "answersMail(0, 0)" + UNFIT, "answersLine(0, 0)" + UNFIT,
                "kind(0, 1) = d", "answersMail(0, 1)" + UNFIT, "answersLine(0, 1)" + UNFIT,
                "kind(0, 2) = s", "answersMail(0, 2)" + UNFIT, "answersLine(0, 2)" + UNFIT,
                "kind(1, 0) = q", "answersMail(1, 0)" + UNFIT, "answersLine(1, 0)" + UNFIT,
                "kind(1, 1) = x", "answersMail(1, 1)" + UNFIT, "answersLine(1, 1)" + UNFIT,
                "kind(1, 2) = s", "answersMail(1, 2)" + UNFIT, "answersLine(1, 2)" + UNFIT,
                "kind(2, 0) = n", "answersMail(2, 0)" + NONE, "answersLine(2, 0)" + NONE,
                "answersMail(0, 3)" + NO_SUCH, "answersLine(0, 3)" + NO_SUCH,
                "answersMail(0, -1)" + NO_SUCH, "answersLine(0, -1)" + NO_SUCH,
                "answersMail(3, 0)" + NO_SUCH, "answersLine(3, 0)" + NO_SUCH,
                "answersMail(-1, 0)" + NO_SUCH, "answersLine(-1, 0)" + NO_SUCH);
    }

    private static void answers(Results results) {
        results.rows("promise 19: new lines of all mails, but no signatures",
                "answers(0, 0)" + NO_SUCH,
                "arrive(10, 0, 0, 0) = 0", "arrive(20, 1, 0, 10) = 1", "arrive(30, 1, 0, 10) = 2",
                "addLine(0, 0, 1) = 1", "addLine(0, 0, 2) = 2", "answers(0, 0) = 0",
                "addLine(1, 1, 1) = 1", "answers(0, 0) = 0", "addLine(1, 0, 11) = 2",
                "answers(0, 0) = 1", "addLine(1, 0, 12) = 3", "answers(0, 0) = 2",
                "addLine(2, 0, 13) = 1", "addLine(2, 1, 1) = 2", "addLine(2, 0, 14) = 3",
                "answers(0, 0) = 3", "addLine(2, 0, 12) = 4", "answers(0, 0) = 2",
                "answers(0, 1) = 0", "answers(1, 0) = 0", "answers(1, 1) = 0",
                "answers(0, 2)" + NO_SUCH, "answers(0, -1)" + NO_SUCH, "answers(3, 0)" + NO_SUCH,
                "answers(-1, 0)" + NO_SUCH);
    }

    private static void talk(Results results) {
        results.rows("promises 20 and 21: new and recovered lines alone are the talk",
                "arrive(10, 0, 0, 5) = 0", "arrive(20, 0, 0, 10) = 1",
                "addLine(0, 1, 1) = 1", "talk() = 1", "talkByOrigins() = 1",
                "addLine(0, 1, 1) = 2", "talk() = 1", "talkByOrigins() = 1",
                "addLine(0, 2, 1) = 3", "talk() = 1", "talkByOrigins() = 1",
                "addLine(0, 0, 2) = 4", "talk() = 2", "talkByOrigins() = 2",
                "addLine(1, 2, 1) = 1", "kind(1, 0) = q", "talk() = 2", "talkByOrigins() = 2",
                "addLine(1, 1, 2) = 2", "kind(1, 1) = q", "talk() = 2", "talkByOrigins() = 2",
                "addLine(1, 0, 2) = 3", "kind(1, 2) = s", "talk() = 1", "talkByOrigins() = 1",
                "addLine(1, 0, 3) = 4", "talk() = 4", "talkByOrigins() = 4",
                "arrive(5, 0, 0, 0) = 2", "talk() = 3", "talkByOrigins() = 3",
                "removeLine(1) = 3", "removeLine(1) = 2", "talk() = 1", "talkByOrigins() = 1");
    }

    private static void copies(Results results) {
        results.rows("promise 22: all lines with this origin, itself included",
                "copies(0, 0)" + NO_SUCH,
                "arrive(10, 0, 0, 0) = 0", "arrive(20, 1, 0, 10) = 1", "arrive(30, 2, 0, 20) = 2",
                "addLine(0, 0, 7) = 1", "addLine(0, 0, 7) = 2", "copies(0, 0) = 1",
                "addLine(1, 1, 7) = 1", "copies(0, 0) = 2", "copies(0, 1) = 1",
                "addLine(2, 2, 7) = 1", "copies(0, 0) = 3", "addLine(2, 1, 7) = 2",
                "copies(0, 0) = 3", "addLine(1, 0, 8) = 2", "copies(1, 1) = 1",
                "copies(1, 0)" + UNFIT, "copies(2, 1)" + UNFIT,
                "copies(0, 2)" + NO_SUCH, "copies(0, -1)" + NO_SUCH, "copies(3, 0)" + NO_SUCH,
                "copies(-1, 0)" + NO_SUCH);
        results.rows("promise 22: copies of a recovered line, and none of a double or signature",
                "arrive(10, 0, 0, 5) = 0", "arrive(20, 0, 0, 10) = 1",
                "addLine(0, 1, 7) = 1", "addLine(0, 1, 7) = 2", "addLine(0, 0, 9) = 3",
                "addLine(1, 2, 7) = 1", "addLine(1, 2, 7) = 2", "addLine(1, 0, 9) = 3",
                "copies(0, 0) = 2", "kind(0, 1) = d", "copies(0, 1)" + UNFIT,
                "kind(0, 2) = s", "copies(0, 2)" + UNFIT, "copies(1, 0)" + UNFIT);
    }
}
