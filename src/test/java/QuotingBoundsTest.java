/**
 * The bounds that promises 10 to 16 name. The name of each test tells the promise, the words of
 * the sentence, and the case of it.
 */
final class QuotingBoundsTest {
    private static final String NONE = " = throws.NoSuchElementException";
    private static final String NO_SUCH = " = throws.IndexOutOfBoundsException";
    /** A mail and its answer, both without lines. */
    private static final String[] TWO = {"arrive(10, 0, 0, 0)", "arrive(20, 1, 0, 10)"};

    private QuotingBoundsTest() {
    }

    static void run(Results results) {
        for (String name : new String[] {"aligned", "alignedByTrying"}) {
            aligned(results, name);
        }
        partner(results);
        noPartner(results);
        originMail(results);
        originLine(results);
        kind(results);
        signature(results);
    }

    private static void aligned(Results results, String name) {
        boolean byTable = name.equals("aligned");
        String promise = byTable ? "promise 10 | " : "promise 11 | ";
        String returned = promise + "Returns the number of lines. | ";
        String first = name + "(0) = ";
        String second = name + "(1) = ";
        results.mailNumbers(promise, name + "(#)");
        results.rows(returned + "0 without lines in either mail, or in one of both",
                Boxes.join(TWO, new String[] {first + 0, second + 0, "addLine(0, 0, 7)",
                    first + 0, second + 0, "removeLine(0)", "addLine(1, 1, 7)", first + 0,
                    second + 0, "addLine(0, 0, 7)", first + 0, second + 1, "removeLine(1)",
                    second + 0}));
        results.rows(returned + "0 to 8 of 8 lines, as the parent's lines come and go",
                Boxes.join(TWO, Boxes.lines(1, 8, 1, 10), new String[] {second + 0,
                    "addLine(0, 0, 10)", second + 1, "addLine(0, 0, 11)", second + 2,
                    "addLine(0, 0, 12)", second + 3, "addLine(0, 0, 13)", second + 4,
                    "addLine(0, 0, 14)", second + 5, "addLine(0, 0, 15)", second + 6,
                    "addLine(0, 0, 16)", second + 7, "addLine(0, 0, 17)", second + 8,
                    "addLine(0, 0, 18) = throws.IllegalStateException", second + 8,
                    "removeLine(0)", second + 7, first + 0}));
        results.rows(returned + "1 of 8 lines the other way round",
                Boxes.join(TWO, Boxes.lines(1, 8, 1, 10), new String[] {"addLine(0, 0, 17)",
                    "addLine(0, 0, 16)", "addLine(0, 0, 15)", "addLine(0, 0, 14)",
                    "addLine(0, 0, 13)", "addLine(0, 0, 12)", "addLine(0, 0, 11)",
                    "addLine(0, 0, 10)", second + 1, "partner(1, 0) = 7"}));
        results.rows(returned + "8 of 8 equal lines, which have the most alignments",
                Boxes.join(TWO, new String[] {"addLine(0, 2, 99)", "addLine(0, 2, 99)",
                    "addLine(0, 2, 99)", "addLine(0, 2, 99)", "addLine(0, 2, 99)",
                    "addLine(0, 2, 99)", "addLine(0, 2, 99)", "addLine(0, 2, 99)",
                    "addLine(1, 3, 99)", "addLine(1, 3, 99)", "addLine(1, 3, 99)",
                    "addLine(1, 3, 99)", second + 4, "addLine(1, 3, 99)", "addLine(1, 3, 99)",
                    "addLine(1, 3, 99)", "addLine(1, 3, 99)", second + 8, first + 0}));
        results.rows(returned + "the last of ten mails with the first, and the first with the last",
                Boxes.join(new String[] {"arrive(99, 0, 0, 98)", "addLine(0, 1, 7)",
                    "addLine(0, 2, 8)"}, Boxes.mails(7), new String[] {first + 0,
                        "arrive(98, 1, 0, 97) = 8", first + 0, "addLine(8, 0, 7)", first + 1,
                        "arrive(97, 2, 0, 0) = 9", "addLine(8, 1, 8)", first + 2, name + "(8) = 0",
                        "addLine(9, 0, 8)", name + "(8) = 1", name + "(9) = 0"}));
        results.rows(returned + "after the other mails were asked", Boxes.join(Boxes.FULL,
                new String[] {name + "(0)", name + "(1) = 0", name + "(0)", name + "(9) = 6",
                    name + "(5) = 0", name + "(9) = 6"}));
    }

    private static void partner(Results results) {
        results.lineNumbers("promise 12 | ", "partner");
        results.rows("promise 12 | Returns the number of the line of the parent. | 0 to 7 of the"
                + " lines 0 to 7",
                Boxes.join(TWO, Boxes.lines(0, 8, 2, 92), Boxes.lines(1, 8, 3, 92), new String[] {
                    "partner(1, 0) = 0", "partner(1, 1) = 1", "partner(1, 2) = 2",
                    "partner(1, 3) = 3", "partner(1, 4) = 4", "partner(1, 5) = 5",
                    "partner(1, 6) = 6", "partner(1, 7) = 7"}));
        results.rows("promise 12 | Returns the number of the line of the parent. | 7 of the line 0,"
                + " and 0 of the line 7",
                Boxes.join(TWO, new String[] {"arrive(30, 2, 0, 10)"}, Boxes.lines(0, 8, 0, 10),
                new String[] {"addLine(1, 1, 17)", "partner(1, 0) = 7"},
                Boxes.lines(2, 7, 0, 10), new String[] {"addLine(2, 1, 10) = 8",
                    "partner(2, 7) = 0"}));
        results.rows("promise 12 | Returns the number of the line of the parent. | of the tenth"
                + " mail's first line and last line",
                Boxes.join(Boxes.answersToDateOne(9), new String[] {"arrive(1, 0, 0, 0) = 9"},
                Boxes.lines(9, 8, 0, 1), new String[] {"addLine(0, 1, 8) = 1",
                    "addLine(8, 1, 1) = 1", "partner(0, 0) = 7", "partner(8, 0) = 0"}));
    }

    private static void noPartner(Results results) {
        results.refused("promise 12 | Throws `NoSuchElementException` if it has none | lines of all"
                + " kinds but 'q'", Boxes.SMALL, "partner(0, 0)" + NONE, "partner(0, 1)" + NONE,
                "partner(0, 2)" + NONE, "partner(0, 3)" + NONE, "partner(1, 2)" + NONE,
                "partner(1, 3)" + NONE, "partner(2, 2)" + NONE);
        results.rows("promise 12 | Throws `NoSuchElementException` if it has none | once the one"
                + " partner is removed, or is taken by the line ahead",
                Boxes.join(TWO, new String[] {"addLine(0, 0, 7)", "addLine(1, 1, 6)",
                    "addLine(1, 1, 7)", "partner(1, 0)" + NONE, "partner(1, 1) = 0",
                    "addLine(1, 1, 7)", "partner(1, 1) = 0", "partner(1, 2)" + NONE,
                    "removeLine(0) = 0", "partner(1, 1)" + NONE, "addLine(0, 0, 7) = 1",
                    "partner(1, 1) = 0", "partner(0, 0)" + NONE}));
        results.rows("promise 12 | Throws `NoSuchElementException` if it has none | a line that was"
                + " removed and comes anew as another one",
                Boxes.join(TWO, new String[] {"addLine(0, 0, 7)", "addLine(1, 1, 7)",
                    "partner(1, 0) = 0", "removeLine(1) = 0", "partner(1, 0)" + NO_SUCH,
                    "addLine(1, 0, 7) = 1", "partner(1, 0)" + NONE, "kind(1, 0) = n",
                    "removeLine(1) = 0", "addLine(1, 2, 7) = 1", "partner(1, 0)" + NONE,
                    "kind(1, 0) = x"}));
    }

    private static void originMail(Results results) {
        results.lineNumbers("promise 13 | ", "originMail");
        results.rows("promise 13 | Returns the number of the mail of the origin. | 0 from the tenth"
                + " mail, 9 from the first",
                Boxes.join(new String[] {"arrive(1, 0, 0, 0)", "addLine(0, 0, 7)"},
                Boxes.answersToDateOne(8), new String[] {"arrive(50, 2, 0, 9) = 9",
                    "addLine(8, 1, 7)", "addLine(9, 2, 7)", "originMail(9, 0) = 0",
                    "originMail(8, 0) = 0", "originMail(0, 0) = 0"}));
        results.rows("promise 13 | Returns the number of the mail of the origin. | 9 from the first"
                + " mail, over three steps",
                Boxes.join(new String[] {"arrive(99, 0, 0, 98)", "arrive(98, 1, 0, 97)",
                    "arrive(97, 2, 0, 96)"}, Boxes.mails(6), new String[] {
                        "arrive(96, 3, 0, 0) = 9", "addLine(0, 3, 7)", "originMail(0, 0) = 0",
                        "addLine(1, 2, 7)", "originMail(0, 0) = 1", "addLine(2, 1, 7)",
                        "originMail(0, 0) = 2", "addLine(9, 0, 7)", "originMail(0, 0) = 9",
                        "originMail(1, 0) = 9", "originMail(2, 0) = 9", "originMail(9, 0) = 9"}));
    }

    private static void originLine(Results results) {
        results.lineNumbers("promise 14 | ", "originLine");
        results.rows("promise 14 | Returns the number of the origin in its mail. | 0 to 7, of a"
                + " line itself and of one that quotes",
                Boxes.join(TWO, Boxes.lines(0, 8, 0, 10), Boxes.lines(1, 8, 1, 10), new String[] {
                    "originLine(0, 0) = 0", "originLine(0, 7) = 7", "originLine(1, 0) = 0",
                    "originLine(1, 1) = 1", "originLine(1, 6) = 6", "originLine(1, 7) = 7",
                    "removeLine(0) = 7", "originLine(1, 7) = 7", "originMail(1, 7) = 1",
                    "originMail(1, 6) = 0"}));
        results.rows("promise 14 | Returns the number of the origin in its mail. | 7 of the line 0,"
                + " and 0 of the line 7",
                Boxes.join(TWO, new String[] {"arrive(30, 2, 0, 20)"}, Boxes.lines(0, 8, 0, 10),
                new String[] {"addLine(1, 1, 17)", "originLine(1, 0) = 7"},
                Boxes.lines(2, 7, 0, 10), new String[] {"addLine(2, 2, 17) = 8",
                    "partner(2, 7) = 0", "originLine(2, 7) = 7", "originMail(2, 7) = 0",
                    "removeLine(1) = 0", "addLine(1, 2, 17)", "originLine(2, 7) = 7",
                    "originMail(2, 7) = 2"}));
    }

    private static void kind(Results results) {
        results.lineNumbers("promise 15 | ", "kind");
        results.rows("promise 15 | Returns 's', 'n', 'q', 'r', 'd' or 'x'. | each of the six in one"
                + " small box",
                Boxes.join(Boxes.SMALL, new String[] {"kind(0, 0) = r", "kind(0, 1) = d",
                    "kind(0, 2) = n", "kind(0, 3) = s", "kind(1, 0) = q", "kind(1, 1) = q",
                    "kind(1, 2) = n", "kind(1, 3) = x", "kind(2, 0) = q", "kind(2, 1) = n",
                    "kind(2, 2) = s"}));
        results.rows("promise 15 | Returns 's', 'n', 'q', 'r', 'd' or 'x'. | first and last lines"
                + " of the first and the last mail of a full box",
                Boxes.join(Boxes.FULL, new String[] {"kind(0, 0) = n", "kind(0, 7) = s",
                    "kind(9, 0) = q", "kind(9, 5) = q", "kind(9, 6) = s", "kind(9, 7) = s",
                    "kind(5, 5) = n", "kind(5, 6) = s", "kind(1, 0) = r", "kind(1, 2) = d",
                    "kind(8, 1) = x"}));
        results.rows("promise 15 | Returns 's', 'n', 'q', 'r', 'd' or 'x'. | all 8 lines of a mail"
                + " are new, quoted, recovered, double or stray",
                Boxes.join(new String[] {"arrive(10, 0, 0, 0)", "arrive(20, 1, 0, 10)",
                    "arrive(40, 2, 0, 35)", "arrive(41, 3, 0, 35)", "arrive(50, 4, 0, 41)"},
                Boxes.lines(0, 8, 0, 10), Boxes.lines(1, 8, 1, 10), Boxes.lines(2, 8, 1, 10),
                Boxes.lines(3, 8, 1, 10), Boxes.lines(4, 8, 1, 10), new String[] {
                    "kind(0, 0) = n", "kind(0, 7) = n", "kind(1, 0) = q", "kind(1, 7) = q",
                    "kind(2, 0) = r", "kind(2, 7) = r", "kind(3, 0) = d", "kind(3, 7) = d",
                    "kind(4, 0) = x", "kind(4, 7) = x", "talk() = 16"}));
    }

    private static void signature(Results results) {
        results.mailNumbers("promise 16 | ", "signature(#)");
        results.rows("promise 16 | Returns the number of lines. | 0 without lines in the mail, in"
                + " the other one, or in both",
                "arrive(10, 0, 0, 0) = 0", "signature(0) = 0", "addLine(0, 0, 7) = 1",
                "signature(0) = 0", "arrive(20, 0, 0, 0) = 1", "signature(0) = 0",
                "signature(1) = 0", "removeLine(0) = 0", "signature(0) = 0", "signature(1) = 0",
                "addLine(1, 0, 7) = 1", "signature(0) = 0", "signature(1) = 0",
                "addLine(0, 0, 7) = 1", "signature(0) = 1", "signature(1) = 1",
                "removeLine(1) = 0", "signature(0) = 0", "signature(1) = 0");
        results.rows("promise 16 | Returns the number of lines. | 3 of 8 equal lines, and 1 to 3 as"
                + " the other mail grows up to 8 lines",
                Boxes.join(Boxes.mails(2), Boxes.lines(0, 8, 0, 10), new String[] {
                    "addLine(1, 0, 17)", "signature(0) = 1", "removeLine(1)",
                    "addLine(1, 0, 16)", "signature(0) = 0", "addLine(1, 0, 17)",
                    "signature(0) = 2", "signature(1) = 2", "removeLine(1)", "removeLine(1)"},
                Boxes.lines(1, 7, 0, 10), new String[] {"signature(0) = 0", "signature(1) = 0",
                    "addLine(1, 0, 17) = 8", "signature(0) = 3", "signature(1) = 3"}));
        results.rows("promise 16 | Returns the number of lines. | the most of several other mails,"
                + " whichever comes first",
                Boxes.join(Boxes.mails(4), new String[] {"addLine(0, 0, 7)", "addLine(0, 0, 8)",
                    "addLine(1, 0, 6)", "addLine(1, 0, 7)", "addLine(1, 0, 8)", "addLine(2, 0, 8)",
                    "signature(0) = 2", "signature(1) = 2", "signature(2) = 1",
                    "addLine(3, 0, 5)", "addLine(3, 0, 6)", "addLine(3, 0, 7)", "addLine(3, 0, 8)",
                    "signature(1) = 3", "signature(3) = 3", "signature(0) = 2",
                    "signature(2) = 1"}));
        results.rows("promise 16 | Returns the number of lines. | authors 0 and 5, and marks 0 to 3"
                + " on the last line",
                "arrive(10, 5, 0, 0) = 0", "arrive(20, 5, 0, 0) = 1", "arrive(30, 0, 0, 0) = 2",
                "addLine(0, 0, 99)", "addLine(1, 0, 99)", "addLine(2, 0, 99)",
                "signature(0) = 1", "signature(1) = 1", "signature(2) = 0", "addLine(1, 1, 99)",
                "signature(0) = 0", "removeLine(1)", "removeLine(1)", "addLine(1, 3, 99)",
                "signature(0) = 0", "signature(1) = 0");
    }
}
