import java.util.Arrays;

/**
 * The bounds that promises 1 to 9 name. The name of each test tells the promise, the words of the
 * sentence, and the case of it.
 */
final class MailsBoundsTest {
    private static final String ILLEGAL = " = throws.IllegalArgumentException";
    private static final String STATE = " = throws.IllegalStateException";
    private static final String NO_SUCH = " = throws.IndexOutOfBoundsException";
    private static final String NONE = " = throws.NoSuchElementException";

    private MailsBoundsTest() {
    }

    static void run(Results results) {
        newObject(results);
        numbersOfArrive(results);
        arrive(results);
        refusedArrive(results);
        numbersOfAddLine(results);
        addLine(results);
        removeLine(results);
        mailsAndLines(results);
        word(results);
        parent(results);
        missing(results);
    }

    private static void newObject(Results results) {
        results.rows("promise 1 | Creates a reader without mails. | what needs no mail answers 0",
                "mails() = 0", "missing() = 0", "talk() = 0", "talkByOrigins() = 0",
                "threads() = 0");
        results.refused("promise 1 | Creates a reader without mails. | all else is refused",
                Boxes.EMPTY, "addLine(0, 0, 1)" + NO_SUCH, "removeLine(0)" + NO_SUCH,
                "lines(0)" + NO_SUCH, "word(0, 0)" + NO_SUCH, "parent(0)" + NO_SUCH,
                "aligned(0)" + NO_SUCH, "alignedByTrying(0)" + NO_SUCH, "partner(0, 0)" + NO_SUCH,
                "originMail(0, 0)" + NO_SUCH, "originLine(0, 0)" + NO_SUCH,
                "kind(0, 0)" + NO_SUCH, "signature(0)" + NO_SUCH, "answersMail(0, 0)" + NO_SUCH,
                "answersLine(0, 0)" + NO_SUCH, "answers(0, 0)" + NO_SUCH, "copies(0, 0)" + NO_SUCH,
                "root(0)" + NO_SUCH, "rootByRounds(0)" + NO_SUCH, "size(0)" + NO_SUCH,
                "newShare() = throws.ArithmeticException",
                "meanSize() = throws.ArithmeticException");
        TalkRebuilder full = (TalkRebuilder) Replay.after(TalkRebuilder::new,
                Arrays.asList(Boxes.FULL));
        boolean isNew = new TalkRebuilder().mails() == 0 && full.mails() == 10;
        results.record("promise 1 | Creates a reader without mails. | while another one is full",
                isNew ? "" : "  two objects share their mails");
    }

    private static void numbersOfArrive(Results results) {
        String illegal = "throws.IllegalArgumentException";
        results.range("promise 2 | `date`: its date, 1 to 99 | answering none", Boxes.EMPTY,
                "arrive(#, 0, 0, 0)", 1, 99, illegal);
        results.range("promise 2 | `date`: its date, 1 to 99 | answering 49", Boxes.ONE_MAIL,
                "arrive(#, 0, 0, 49)", 51, 99, illegal);
        results.range("promise 2 | `author`: its author, 0 to 5 | in an empty box", Boxes.EMPTY,
                "arrive(10, #, 0, 0)", 0, 5, illegal);
        results.range("promise 2 | `author`: its author, 0 to 5 | in a box of four", Boxes.SMALL,
                "arrive(99, #, 9, 98)", 0, 5, illegal);
        results.range("promise 2 | `subject`: its subject, 0 to 9 | in an empty box", Boxes.EMPTY,
                "arrive(10, 0, #, 0)", 0, 9, illegal);
        results.range("promise 2 | `subject`: its subject, 0 to 9 | in a box of four", Boxes.SMALL,
                "arrive(99, 5, #, 98)", 0, 9, illegal);
        for (int date : new int[] {1, 2, 51, 98, 99}) {
            results.range("promise 2 | `answered`: the date of the mail that it answers, 1 to 1"
                    + " less than its own date, or 0 for none | for the date " + date,
                    Boxes.ONE_MAIL, "arrive(" + date + ", 0, 0, #)", 0, date - 1, illegal);
        }
    }

    private static void arrive(Results results) {
        results.rows("promise 2 | Lets a mail arrive, without lines. | the first and the tenth,"
                + " when the others are full",
                "arrive(1, 0, 0, 0) = 0", "lines(0) = 0", "word(0, 0)" + NO_SUCH,
                "aligned(0) = 0", "signature(0) = 0", "arrive(2, 0, 0, 1) = 1", "lines(1) = 0",
                "arrive(3, 0, 0, 1) = 2", "arrive(4, 0, 0, 1) = 3", "arrive(5, 0, 0, 1) = 4",
                "arrive(6, 0, 0, 1) = 5", "arrive(7, 0, 0, 1) = 6", "arrive(8, 0, 0, 1) = 7",
                "arrive(9, 0, 0, 1) = 8", "addLine(8, 0, 5) = 1", "addLine(0, 0, 5) = 1",
                "arrive(10, 0, 0, 1) = 9", "lines(9) = 0", "word(9, 0)" + NO_SUCH,
                "aligned(9) = 0", "signature(9) = 0", "talk() = 0");
        results.rows("promise 2 | Returns the number of the mail. | 0 to 9, and none is skipped for"
                + " a refused one",
                "arrive(0, 0, 0, 0)" + ILLEGAL, "arrive(1, 0, 0, 0) = 0",
                "arrive(1, 0, 0, 0)" + ILLEGAL, "arrive(99, 5, 9, 98) = 1",
                "arrive(98, 6, 0, 0)" + ILLEGAL, "arrive(2, 0, 0, 0) = 2",
                "arrive(3, 0, 0, 0) = 3", "arrive(4, 0, 0, 0) = 4", "arrive(5, 0, 0, 0) = 5",
                "arrive(6, 0, 0, 0) = 6", "arrive(7, 0, 0, 0) = 7", "arrive(8, 0, 0, 0) = 8",
                "arrive(8, 0, 0, 9)" + ILLEGAL, "arrive(9, 0, 0, 0) = 9");
    }

    private static void refusedArrive(Results results) {
        results.refused("promise 2 | Throws `IllegalArgumentException` if a number is out of range"
                + " | one alone, and several at once", Boxes.SMALL,
                "arrive(0, 0, 0, 0)" + ILLEGAL, "arrive(100, 0, 0, 0)" + ILLEGAL,
                "arrive(99, -1, 0, 0)" + ILLEGAL, "arrive(99, 6, 0, 0)" + ILLEGAL,
                "arrive(99, 0, -1, 0)" + ILLEGAL, "arrive(99, 0, 10, 0)" + ILLEGAL,
                "arrive(99, 0, 0, -1)" + ILLEGAL, "arrive(99, 0, 0, 99)" + ILLEGAL,
                "arrive(100, 6, 10, 100)" + ILLEGAL, "arrive(0, -1, -1, -1)" + ILLEGAL,
                "arrive(-2147483648, 0, 0, 2147483647)" + ILLEGAL,
                "arrive(-2147483648, 0, 0, 0)" + ILLEGAL,
                "arrive(2147483647, 2147483647, 2147483647, 2147483647)" + ILLEGAL,
                "arrive(-2147483648, -2147483648, -2147483648, -2147483648)" + ILLEGAL);
        results.refused("promise 2 | or a mail has this date | the first and the last mail's date,"
                + " with all else new", Boxes.SMALL,
                "arrive(20, 5, 9, 0)" + ILLEGAL, "arrive(20, 1, 3, 10)" + ILLEGAL,
                "arrive(30, 5, 9, 29)" + ILLEGAL, "arrive(50, 5, 9, 0)" + ILLEGAL,
                "arrive(50, 5, 9, 49)" + ILLEGAL);
        results.rows("promise 2 | or a mail has this date | a date that is answered, or was"
                + " refused, is free, as those beside are",
                "arrive(20, 0, 0, 10) = 0", "arrive(15, 6, 0, 0)" + ILLEGAL,
                "arrive(10, 0, 0, 0) = 1", "arrive(15, 0, 0, 0) = 2", "arrive(19, 0, 0, 0) = 3",
                "arrive(21, 0, 0, 0) = 4", "arrive(10, 0, 0, 0)" + ILLEGAL);
        results.rows("promise 2 | Throws `IllegalStateException` if there are 10 mails | not with"
                + " 9, but with 10",
                Boxes.join(Boxes.mails(9), new String[] {"mails() = 9", "arrive(10, 0, 0, 0) = 9",
                    "arrive(11, 0, 0, 0)" + STATE, "arrive(99, 5, 9, 98)" + STATE,
                    "mails() = 10", "lines(10)" + NO_SUCH}));
        results.refused("promise 2 | Throws `IllegalStateException` if there are 10 mails | mails"
                + " without lines, and each free date", Boxes.mails(10),
                "arrive(11, 0, 0, 0)" + STATE, "arrive(11, 0, 0, 10)" + STATE,
                "arrive(50, 5, 9, 49)" + STATE, "arrive(99, 0, 0, 0)" + STATE);
        results.refused("exceptions | If several exceptions apply, the one that is documented first"
                + " is thrown. | promise 2: 10 mails, and a wrong number or a date that is had",
                Boxes.mails(10), "arrive(1, 0, 0, 0)" + ILLEGAL, "arrive(10, 0, 0, 0)" + ILLEGAL,
                "arrive(0, 0, 0, 0)" + ILLEGAL, "arrive(100, 0, 0, 0)" + ILLEGAL,
                "arrive(11, -1, 0, 0)" + ILLEGAL, "arrive(11, 6, 0, 0)" + ILLEGAL,
                "arrive(11, 0, -1, 0)" + ILLEGAL, "arrive(11, 0, 10, 0)" + ILLEGAL,
                "arrive(11, 0, 0, -1)" + ILLEGAL, "arrive(11, 0, 0, 11)" + ILLEGAL);
    }

    private static void numbersOfAddLine(Results results) {
        String illegal = "throws.IllegalArgumentException";
        String noSuch = "throws.IndexOutOfBoundsException";
        results.mailNumbers("promise 3 | ", "addLine(#, 0, 1)");
        results.range("promise 3 | `mail`: the number of the mail | ten mails with room",
                Boxes.mails(10), "addLine(#, 3, 99)", 0, 9, noSuch);
        results.range("promise 3 | `marks`: the number of marks, 0 to 3 | on a mail without lines",
                Boxes.ONE_MAIL, "addLine(0, #, 1)", 0, 3, illegal);
        results.range("promise 3 | `marks`: the number of marks, 0 to 3 | behind other lines",
                Boxes.SMALL, "addLine(2, #, 99)", 0, 3, illegal);
        results.range("promise 3 | `word`: the word, 1 to 99 | on a mail without lines",
                Boxes.ONE_MAIL, "addLine(0, 0, #)", 1, 99, illegal);
        results.range("promise 3 | `word`: the word, 1 to 99 | behind other lines", Boxes.SMALL,
                "addLine(2, 3, #)", 1, 99, illegal);
    }

    private static void addLine(Results results) {
        results.rows("promise 3 | Adds a line to the end of a mail. | the first and the last line"
                + " of the first and the last mail",
                Boxes.join(Boxes.mails(10), new String[] {"addLine(0, 0, 11) = 1",
                    "word(0, 0) = 11", "addLine(9, 0, 12) = 1", "word(9, 0) = 12",
                    "word(0, 0) = 11"}, Boxes.lines(0, 6, 0, 21), Boxes.lines(9, 6, 0, 31),
                new String[] {"addLine(0, 0, 41) = 8", "addLine(9, 0, 42) = 8", "word(0, 0) = 11",
                    "word(0, 7) = 41", "word(9, 0) = 12", "word(9, 7) = 42", "lines(1) = 0",
                    "lines(8) = 0"}));
        results.rows("promise 3 | Returns the number of lines of the mail. | 1 to 8, again after"
                + " one was removed",
                "arrive(10, 0, 0, 0) = 0", "arrive(20, 0, 0, 0) = 1",
                "addLine(0, 0, 1) = 1", "addLine(0, 0, 1) = 2", "addLine(1, 0, 1) = 1",
                "addLine(0, 0, 1) = 3", "addLine(0, 0, 1) = 4", "addLine(0, 0, 1) = 5",
                "addLine(0, 0, 1) = 6", "addLine(0, 0, 1) = 7", "addLine(0, 0, 1) = 8",
                "removeLine(0) = 7", "addLine(0, 0, 1) = 8", "addLine(1, 0, 1) = 2");
        results.refused("promise 3 | Throws `IllegalArgumentException` if a number is out of range"
                + " | one alone, and both at once", Boxes.SMALL,
                "addLine(0, -1, 1)" + ILLEGAL, "addLine(0, 4, 1)" + ILLEGAL,
                "addLine(0, 0, 0)" + ILLEGAL, "addLine(0, 0, 100)" + ILLEGAL,
                "addLine(3, 4, 100)" + ILLEGAL, "addLine(3, -1, 0)" + ILLEGAL,
                "addLine(3, -2147483648, 2147483647)" + ILLEGAL,
                "addLine(3, 2147483647, -2147483648)" + ILLEGAL);
        results.rows("promise 3 | Throws `IllegalStateException` if the mail has 8 lines | not with"
                + " 7, but with 8, and not for the mails beside",
                Boxes.join(Boxes.mails(3), Boxes.lines(1, 7, 0, 1), new String[] {
                    "lines(1) = 7", "addLine(1, 0, 8) = 8", "addLine(1, 0, 9)" + STATE,
                    "addLine(1, 3, 99)" + STATE, "lines(1) = 8", "word(1, 7) = 8",
                    "word(1, 8)" + NO_SUCH, "addLine(0, 0, 1) = 1", "addLine(2, 0, 1) = 1",
                    "removeLine(1) = 7", "addLine(1, 0, 9) = 8", "addLine(1, 0, 9)" + STATE}));
        results.refused("promise 3 | Throws `IllegalStateException` if the mail has 8 lines | each"
                + " of ten", Boxes.FULL,
                "addLine(0, 0, 1)" + STATE, "addLine(1, 1, 1)" + STATE,
                "addLine(2, 2, 1)" + STATE, "addLine(3, 3, 1)" + STATE,
                "addLine(4, 0, 99)" + STATE, "addLine(5, 1, 10)" + STATE,
                "addLine(6, 0, 1)" + STATE, "addLine(7, 0, 1)" + STATE,
                "addLine(8, 0, 1)" + STATE, "addLine(9, 3, 99)" + STATE);
        results.refused("exceptions | If several exceptions apply, the one that is documented first"
                + " is thrown. | promise 3: no such mail, then wrong numbers, then 8 lines",
                Boxes.FULL, "addLine(10, 4, 1)" + NO_SUCH, "addLine(10, 0, 100)" + NO_SUCH,
                "addLine(-1, -1, 0)" + NO_SUCH, "addLine(10, 0, 1)" + NO_SUCH,
                "addLine(0, 4, 1)" + ILLEGAL, "addLine(0, -1, 1)" + ILLEGAL,
                "addLine(9, 0, 0)" + ILLEGAL, "addLine(9, 0, 100)" + ILLEGAL);
    }

    private static void removeLine(Results results) {
        results.mailNumbers("promise 4 | ", "removeLine(#)");
        results.rows("promise 4 | Removes the last line of a mail. | of 8 lines, of 1 line, and in"
                + " no mail beside",
                Boxes.join(Boxes.mails(3), Boxes.lines(0, 8, 0, 11), Boxes.lines(1, 8, 0, 21),
                Boxes.lines(2, 8, 0, 31), new String[] {"removeLine(1) = 7", "word(1, 6) = 27",
                    "word(1, 7)" + NO_SUCH, "word(0, 7) = 18", "word(2, 0) = 31",
                    "removeLine(1) = 6", "removeLine(1) = 5", "removeLine(1) = 4",
                    "removeLine(1) = 3", "removeLine(1) = 2", "removeLine(1) = 1",
                    "word(1, 0) = 21", "removeLine(1) = 0", "word(1, 0)" + NO_SUCH,
                    "lines(0) = 8", "lines(1) = 0", "lines(2) = 8", "mails() = 3"}));
        results.rows("promise 4 | Returns the number of lines of the mail then. | 7 to 0",
                Boxes.join(Boxes.mails(1), Boxes.lines(0, 8, 1, 11), new String[] {
                    "removeLine(0) = 7", "removeLine(0) = 6", "removeLine(0) = 5",
                    "removeLine(0) = 4", "removeLine(0) = 3", "removeLine(0) = 2",
                    "removeLine(0) = 1", "removeLine(0) = 0", "removeLine(0)" + STATE,
                    "lines(0) = 0", "addLine(0, 0, 1) = 1", "removeLine(0) = 0"}));
        results.refused("promise 4 | Throws `IllegalStateException` if it has no lines | the last"
                + " mail of four", Boxes.SMALL, "removeLine(3)" + STATE);
        results.refused("promise 4 | Throws `IllegalStateException` if it has no lines | each of"
                + " ten", Boxes.mails(10), "removeLine(0)" + STATE, "removeLine(4)" + STATE,
                "removeLine(9)" + STATE);
        results.rows("promise 4 | Throws `IllegalStateException` if it has no lines | not with 1"
                + " line, but without, though the mails beside have lines",
                Boxes.join(Boxes.mails(3), new String[] {"addLine(0, 0, 1) = 1",
                    "addLine(1, 0, 1) = 1", "addLine(2, 0, 1) = 1", "removeLine(1) = 0",
                    "removeLine(1)" + STATE, "lines(0) = 1", "lines(1) = 0", "lines(2) = 1"}));
    }

    private static void mailsAndLines(Results results) {
        results.rows("promise 5 | Returns the number of mails. | 0, 1 and 10, and no more",
                Boxes.join(new String[] {"mails() = 0", "arrive(99, 0, 0, 1) = 0", "mails() = 1"},
                Boxes.mails(8), new String[] {"mails() = 9", "arrive(98, 0, 0, 0) = 9",
                    "mails() = 10", "arrive(97, 0, 0, 0)" + STATE, "mails() = 10",
                    "removeLine(9)" + STATE, "mails() = 10"}));
        results.mailNumbers("promise 6 | ", "lines(#)");
        results.rows("promise 6 | Returns the number of lines. | 0, 1 and 8 in the first and the"
                + " last mail",
                Boxes.join(Boxes.mails(10), new String[] {"lines(0) = 0", "lines(9) = 0",
                    "addLine(0, 0, 1) = 1", "lines(0) = 1", "lines(9) = 0"},
                Boxes.lines(0, 7, 0, 1), new String[] {"lines(0) = 8"}, Boxes.lines(9, 8, 3, 1),
                new String[] {"lines(9) = 8", "lines(1) = 0", "lines(8) = 0",
                    "addLine(9, 0, 1)" + STATE, "lines(9) = 8"}));
    }

    private static void word(Results results) {
        results.lineNumbers("promise 7 | ", "word");
        results.rows("promise 7 | Returns the word. | 1 and 99, of the first and the last line,"
                + " with all marks",
                Boxes.join(Boxes.mails(10), new String[] {"addLine(0, 0, 1)", "addLine(0, 1, 99)"},
                Boxes.lines(0, 4, 2, 50), new String[] {"addLine(0, 2, 1)", "addLine(0, 3, 99)",
                    "addLine(9, 3, 1)", "word(0, 0) = 1", "word(0, 1) = 99", "word(0, 6) = 1",
                    "word(0, 7) = 99", "word(9, 0) = 1", "word(9, 1)" + NO_SUCH}));
        results.rows("promise 7 | Returns the word. | of a line that was removed and added anew",
                "arrive(10, 0, 0, 0) = 0", "addLine(0, 0, 99) = 1", "removeLine(0) = 0",
                "word(0, 0)" + NO_SUCH, "addLine(0, 1, 1) = 1", "word(0, 0) = 1");
    }

    private static void parent(Results results) {
        results.mailNumbers("promise 8 | ", "parent(#)");
        results.rows("promise 8 | Returns the number of the parent. | 0 and 9",
                Boxes.join(new String[] {"arrive(50, 0, 0, 0) = 0", "arrive(51, 0, 0, 50) = 1",
                    "arrive(99, 0, 0, 98) = 2", "parent(1) = 0", "parent(2)" + NONE},
                Boxes.mails(6), new String[] {"arrive(98, 0, 0, 51) = 9", "parent(2) = 9",
                    "parent(9) = 1", "parent(1) = 0"}));
        results.refused("promise 8 | Throws `NoSuchElementException` if it has none | the mail"
                + " answers none, or one that is missing", Boxes.SMALL, "parent(0)" + NONE,
                "parent(3)" + NONE);
        results.refused("promise 8 | Throws `NoSuchElementException` if it has none | in a full"
                + " box", Boxes.FULL, "parent(1)" + NONE, "parent(5)" + NONE, "parent(6)" + NONE,
                "parent(8)" + NONE);
        results.rows("promise 8 | Throws `NoSuchElementException` if it has none | the dates beside"
                + " have arrived",
                "arrive(30, 0, 0, 20) = 0", "arrive(19, 0, 0, 0) = 1", "arrive(21, 0, 0, 0) = 2",
                "parent(0)" + NONE, "arrive(20, 0, 0, 0) = 3", "parent(0) = 3");
    }

    private static void missing(Results results) {
        results.rows("promise 9 | Returns the number of dates, each one counted once. | ten mails"
                + " that answer one date, 1",
                Boxes.join(new String[] {"missing() = 0"}, Boxes.answersToDateOne(1),
                new String[] {"missing() = 1", "arrive(99, 0, 0, 1)", "missing() = 1",
                    "arrive(98, 0, 0, 1)", "arrive(97, 0, 0, 1)", "arrive(96, 0, 0, 1)",
                    "arrive(95, 0, 0, 1)", "arrive(94, 0, 0, 1)", "arrive(93, 0, 0, 1)",
                    "arrive(92, 0, 0, 1)", "missing() = 1", "arrive(91, 0, 0, 1) = 9",
                    "missing() = 1"}));
        results.rows("promise 9 | Returns the number of dates, each one counted once. | ten mails"
                + " that answer ten dates, up to 98",
                "arrive(99, 0, 0, 98)", "arrive(97, 0, 0, 96)", "arrive(95, 0, 0, 94)",
                "arrive(93, 0, 0, 92)", "arrive(91, 0, 0, 90)", "arrive(89, 0, 0, 88)",
                "arrive(87, 0, 0, 86)", "arrive(85, 0, 0, 84)", "arrive(83, 0, 0, 82)",
                "missing() = 9", "arrive(81, 0, 0, 80) = 9", "missing() = 10");
        results.rows("promise 9 | the number of dates of missing mails that are answered | ten"
                + " mails that answer none, and mails that have all arrived",
                Boxes.join(Boxes.mails(9), new String[] {"missing() = 0",
                    "arrive(10, 0, 0, 9) = 9", "missing() = 0"}));
        results.rows("promise 9 | the number of dates of missing mails that are answered | a tenth"
                + " mail that is answered by nine, and answers one itself",
                "arrive(91, 0, 0, 90)", "arrive(92, 0, 0, 90)", "arrive(93, 0, 0, 90)",
                "arrive(94, 0, 0, 90)", "arrive(95, 0, 0, 90)", "arrive(96, 0, 0, 90)",
                "arrive(97, 0, 0, 90)", "arrive(98, 0, 0, 89)", "arrive(99, 0, 0, 89)",
                "missing() = 2", "arrive(90, 0, 0, 88) = 9", "missing() = 2");
    }
}
