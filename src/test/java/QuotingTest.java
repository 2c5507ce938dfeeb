/** Promises 10 to 16: partners, origins, kinds and signatures. */
final class QuotingTest {
    private static final String NO_SUCH = " = throws.IndexOutOfBoundsException";
    private static final String NONE = " = throws.NoSuchElementException";

    private QuotingTest() {
    }

    static void run(Results results) {
        aligned(results);
        partner(results);
        choiceOfPartners(results);
        origins(results);
        kindsOfQuotes(results);
        recovered(results);
        signatures(results);
        noSuchLine(results);
    }

    private static void aligned(Results results) {
        results.rows("promises 10 and 11: the most lines that can have partners, in order",
                "aligned(0)" + NO_SUCH, "alignedByTrying(0)" + NO_SUCH,
                "arrive(10, 0, 0, 0) = 0", "arrive(20, 1, 1, 10) = 1",
                "addLine(0, 0, 1) = 1", "addLine(0, 0, 2) = 2", "addLine(0, 0, 3) = 3",
                "aligned(1) = 0", "alignedByTrying(1) = 0",
                "addLine(1, 1, 3) = 1", "addLine(1, 1, 1) = 2", "addLine(1, 0, 9) = 3",
                "addLine(1, 1, 2) = 4", "aligned(1) = 2", "alignedByTrying(1) = 2",
                "kind(1, 0) = x", "kind(1, 1) = q", "kind(1, 3) = q",
                "aligned(0) = 0", "alignedByTrying(0) = 0",
                "aligned(2)" + NO_SUCH, "alignedByTrying(2)" + NO_SUCH,
                "aligned(-1)" + NO_SUCH, "alignedByTrying(-1)" + NO_SUCH);
        results.rows("promises 10 and 11: a partner has the same word and one mark less",
                "arrive(10, 0, 0, 0) = 0", "arrive(20, 1, 1, 10) = 1",
                "addLine(0, 0, 1) = 1", "addLine(0, 1, 1) = 2", "addLine(0, 2, 1) = 3",
                "addLine(0, 3, 1) = 4",
                "addLine(1, 0, 1) = 1", "aligned(1) = 0", "alignedByTrying(1) = 0",
                "addLine(1, 2, 1) = 2", "aligned(1) = 1", "partner(1, 1) = 1",
                "addLine(1, 3, 1) = 3", "aligned(1) = 2", "partner(1, 2) = 2",
                "addLine(1, 1, 1) = 4", "aligned(1) = 2", "alignedByTrying(1) = 2",
                "addLine(1, 3, 2) = 5", "aligned(1) = 2", "alignedByTrying(1) = 2");
        results.rows("promises 10 and 11: each line of either mail is used once at most",
                "arrive(10, 0, 0, 0) = 0", "arrive(20, 1, 1, 10) = 1", "arrive(30, 1, 1, 10) = 2",
                "addLine(0, 0, 1) = 1", "addLine(0, 0, 1) = 2", "addLine(1, 1, 1) = 1",
                "aligned(1) = 1", "alignedByTrying(1) = 1",
                "addLine(2, 1, 1) = 1", "addLine(2, 1, 1) = 2", "addLine(2, 1, 1) = 3",
                "aligned(2) = 2", "alignedByTrying(2) = 2",
                "aligned(1) = 1", "alignedByTrying(2) = 2", "alignedByTrying(1) = 1",
                "aligned(2) = 2");
        results.rows("promises 10 and 11: a line that was removed has no partner",
                "arrive(10, 0, 0, 0) = 0", "arrive(20, 1, 1, 10) = 1",
                "addLine(0, 0, 1) = 1", "addLine(0, 0, 2) = 2", "addLine(1, 1, 1) = 1",
                "addLine(1, 1, 2) = 2", "aligned(1) = 2", "removeLine(1) = 1",
                "aligned(1) = 1", "alignedByTrying(1) = 1", "removeLine(0) = 1",
                "removeLine(0) = 0", "aligned(1) = 0", "alignedByTrying(1) = 0");
        results.rows("promises 10 and 11: 8 lines with 8 partners, none without the parent",
                "arrive(20, 1, 1, 10) = 0",
                "addLine(0, 1, 5)", "addLine(0, 1, 5)", "addLine(0, 1, 5)", "addLine(0, 1, 5)",
                "addLine(0, 1, 5)", "addLine(0, 1, 5)", "addLine(0, 1, 5)", "addLine(0, 1, 5)",
                "aligned(0) = 0", "alignedByTrying(0) = 0", "arrive(10, 0, 0, 0) = 1",
                "addLine(1, 0, 5)", "addLine(1, 0, 5)", "addLine(1, 0, 5)", "addLine(1, 0, 5)",
                "addLine(1, 0, 5)", "addLine(1, 0, 5)", "addLine(1, 0, 5)",
                "aligned(0) = 7", "alignedByTrying(0) = 7", "partner(0, 6) = 6",
                "partner(0, 7)" + NONE, "addLine(1, 0, 5) = 8",
                "aligned(0) = 8", "alignedByTrying(0) = 8", "partner(0, 7) = 7");
    }

    private static void partner(Results results) {
        results.rows("promise 12: the partner is a line of the parent",
                "arrive(10, 0, 0, 0) = 0", "arrive(20, 1, 1, 10) = 1", "arrive(30, 1, 1, 10) = 2",
                "addLine(0, 0, 4) = 1", "addLine(0, 0, 5) = 2", "addLine(0, 0, 6) = 3",
                "addLine(1, 0, 6) = 1", "addLine(1, 1, 6) = 2", "addLine(2, 1, 5) = 1",
                "partner(1, 0)" + NONE, "partner(1, 1) = 2", "partner(2, 0) = 1",
                "partner(0, 0)" + NONE,
                "partner(1, 2)" + NO_SUCH, "partner(1, -1)" + NO_SUCH, "partner(3, 0)" + NO_SUCH,
                "partner(-1, 0)" + NO_SUCH);
        results.rows("promise 12: partners change with the parent's lines",
                "arrive(10, 0, 0, 0) = 0", "arrive(20, 1, 1, 10) = 1",
                "addLine(1, 1, 7) = 1", "addLine(1, 1, 8) = 2", "partner(1, 0)" + NONE,
                "addLine(0, 0, 8) = 1", "partner(1, 0)" + NONE, "partner(1, 1) = 0",
                "addLine(0, 0, 7) = 2", "partner(1, 0) = 1", "partner(1, 1)" + NONE,
                "addLine(0, 0, 8) = 3", "partner(1, 0) = 1", "partner(1, 1) = 2",
                "removeLine(0) = 2", "removeLine(0) = 1", "partner(1, 0)" + NONE,
                "partner(1, 1) = 0");
        results.rows("promise 12: only the parent itself gives partners",
                "arrive(10, 0, 0, 0) = 0", "arrive(20, 0, 0, 10) = 1", "arrive(30, 0, 0, 20) = 2",
                "addLine(0, 0, 7) = 1", "addLine(2, 1, 7) = 1", "partner(2, 0)" + NONE,
                "kind(2, 0) = x");
    }

    private static void choiceOfPartners(Results results) {
        results.rows("promise 12: of several, the earliest line has the earliest partner",
                "arrive(10, 0, 0, 0) = 0", "arrive(20, 1, 1, 10) = 1",
                "addLine(0, 0, 7) = 1", "addLine(0, 0, 7) = 2", "addLine(0, 0, 7) = 3",
                "addLine(1, 1, 7) = 1", "partner(1, 0) = 0",
                "addLine(1, 1, 7) = 2", "partner(1, 0) = 0", "partner(1, 1) = 1");
        results.rows("promise 12: a line ahead has a partner rather than one behind",
                "arrive(10, 0, 0, 0) = 0", "arrive(20, 1, 1, 10) = 1",
                "addLine(0, 0, 7) = 1", "addLine(0, 0, 8) = 2",
                "addLine(1, 1, 8) = 1", "addLine(1, 1, 7) = 2",
                "aligned(1) = 1", "partner(1, 0) = 1", "partner(1, 1)" + NONE);
        results.rows("promise 12: the most partners come before the earliest ones",
                "arrive(10, 0, 0, 0) = 0", "arrive(20, 1, 1, 10) = 1",
                "addLine(0, 0, 1) = 1", "addLine(0, 0, 2) = 2", "addLine(0, 0, 3) = 3",
                "addLine(1, 1, 3) = 1", "addLine(1, 1, 1) = 2", "addLine(1, 1, 2) = 3",
                "addLine(1, 1, 3) = 4",
                "aligned(1) = 3", "partner(1, 0)" + NONE, "partner(1, 1) = 0",
                "partner(1, 2) = 1", "partner(1, 3) = 2");
        results.rows("promise 12: then the earliest partner of the next line",
                "arrive(10, 0, 0, 0) = 0", "arrive(20, 1, 1, 10) = 1",
                "addLine(0, 0, 1) = 1", "addLine(0, 0, 2) = 2", "addLine(0, 0, 1) = 3",
                "addLine(0, 0, 2) = 4", "addLine(0, 0, 3) = 5",
                "addLine(1, 1, 1) = 1", "addLine(1, 0, 2) = 2", "addLine(1, 1, 2) = 3",
                "addLine(1, 1, 1) = 4", "addLine(1, 1, 3) = 5",
                "aligned(1) = 4", "partner(1, 0) = 0", "partner(1, 2) = 1", "partner(1, 3) = 2",
                "partner(1, 4) = 4");
    }

    private static void origins(Results results) {
        results.rows("promises 13 and 14: the origin, from partner to partner",
                "arrive(10, 0, 0, 0) = 0", "arrive(20, 1, 0, 10) = 1", "arrive(30, 2, 0, 20) = 2",
                "arrive(40, 3, 0, 30) = 3",
                "addLine(0, 0, 9) = 1", "addLine(0, 0, 7) = 2",
                "addLine(1, 1, 7) = 1", "addLine(2, 0, 5) = 1", "addLine(2, 0, 6) = 2",
                "addLine(2, 2, 7) = 3", "addLine(3, 3, 7) = 1",
                "originMail(3, 0) = 0", "originLine(3, 0) = 1", "originMail(2, 2) = 0",
                "originLine(2, 2) = 1", "originMail(1, 0) = 0", "originLine(1, 0) = 1",
                "originMail(0, 1) = 0", "originLine(0, 1) = 1", "originMail(2, 1) = 2",
                "originLine(2, 1) = 1",
                "removeLine(1) = 0", "originMail(3, 0) = 2", "originLine(3, 0) = 2",
                "originMail(2, 2) = 2", "originLine(2, 2) = 2");
        results.rows("promises 13 and 14: a quoting line without a partner is its own origin",
                "arrive(10, 0, 0, 0) = 0", "arrive(20, 0, 0, 10) = 1",
                "addLine(0, 0, 1) = 1", "addLine(1, 0, 1) = 1", "addLine(1, 2, 1) = 2",
                "originMail(1, 1) = 1", "originLine(1, 1) = 1",
                "originMail(1, 0) = 1", "originLine(1, 0) = 0");
    }

    private static void kindsOfQuotes(Results results) {
        results.rows("promise 15: new, quoted and stray lines",
                "arrive(10, 0, 0, 0) = 0", "arrive(20, 1, 0, 10) = 1",
                "addLine(0, 0, 1) = 1", "addLine(0, 1, 1) = 2", "addLine(0, 3, 1) = 3",
                "addLine(1, 1, 1) = 1", "addLine(1, 2, 1) = 2", "addLine(1, 1, 2) = 3",
                "addLine(1, 0, 2) = 4",
                "kind(0, 0) = n", "kind(0, 1) = x", "kind(0, 2) = x", "kind(1, 0) = q",
                "kind(1, 1) = q", "kind(1, 2) = x", "kind(1, 3) = n");
    }

    private static void recovered(Results results) {
        results.rows("promise 15: recovered lines and doubles, by date and not by number",
                "arrive(50, 0, 0, 20) = 0", "addLine(0, 1, 7) = 1", "addLine(0, 2, 7) = 2",
                "addLine(0, 3, 7) = 3", "addLine(0, 1, 7) = 4", "addLine(0, 1, 8) = 5",
                "kind(0, 0) = r", "kind(0, 1) = x", "kind(0, 2) = x", "kind(0, 3) = d",
                "kind(0, 4) = r",
                "arrive(40, 1, 0, 20) = 1", "addLine(1, 0, 1) = 1", "addLine(1, 1, 8) = 2",
                "kind(1, 1) = r", "kind(0, 4) = d", "kind(0, 0) = r",
                "arrive(30, 1, 0, 20) = 2", "addLine(2, 2, 7) = 1", "addLine(2, 0, 7) = 2",
                "kind(0, 0) = r", "addLine(2, 1, 7) = 3", "kind(0, 0) = d", "kind(2, 2) = r",
                "removeLine(2) = 2", "kind(0, 0) = r");
        results.rows("promise 15: only answers to the same missing mail make doubles",
                "arrive(30, 0, 0, 20) = 0", "addLine(0, 1, 7) = 1",
                "arrive(40, 0, 0, 21) = 1", "addLine(1, 1, 7) = 1",
                "arrive(50, 0, 0, 0) = 2", "addLine(2, 1, 7) = 1",
                "kind(0, 0) = r", "kind(1, 0) = r", "kind(2, 0) = x", "talk() = 2");
        results.rows("promise 15: once the parent has arrived, none is recovered",
                "arrive(30, 0, 0, 20) = 0", "addLine(0, 1, 7) = 1", "addLine(0, 1, 8) = 2",
                "addLine(0, 1, 7) = 3", "kind(0, 0) = r", "kind(0, 2) = d", "talk() = 2",
                "arrive(20, 1, 0, 5) = 1", "kind(0, 0) = x", "kind(0, 1) = x", "kind(0, 2) = x",
                "talk() = 0", "addLine(1, 0, 7) = 1", "kind(0, 0) = q", "kind(0, 1) = x",
                "kind(0, 2) = x", "addLine(1, 1, 8) = 2", "kind(1, 1) = r");
    }

    private static void signatures(Results results) {
        results.rows("promises 15 and 16: the longest shared end, at most 3 lines",
                "signature(0)" + NO_SUCH,
                "arrive(10, 2, 0, 0) = 0", "arrive(20, 2, 1, 0) = 1", "arrive(30, 2, 2, 0) = 2",
                "addLine(0, 0, 1) = 1", "signature(0) = 0",
                "addLine(1, 0, 9) = 1", "addLine(1, 0, 1) = 2", "signature(0) = 1",
                "signature(1) = 1", "signature(2) = 0",
                "kind(0, 0) = s", "kind(1, 0) = n", "kind(1, 1) = s",
                "addLine(2, 0, 8) = 1", "addLine(2, 0, 9) = 2", "addLine(2, 0, 1) = 3",
                "signature(0) = 1", "signature(1) = 2", "signature(2) = 2",
                "removeLine(1) = 1", "removeLine(1) = 0", "addLine(1, 0, 8)", "addLine(1, 0, 8)",
                "addLine(1, 0, 9)", "addLine(1, 0, 1)", "signature(1) = 3", "signature(2) = 3",
                "kind(1, 0) = n", "kind(1, 1) = s", "kind(2, 0) = s",
                "signature(-1)" + NO_SUCH, "signature(3)" + NO_SUCH);
        results.rows("promise 16: four shared lines make a signature of 3",
                "arrive(10, 2, 0, 0) = 0", "arrive(20, 2, 1, 0) = 1",
                "addLine(0, 0, 1)", "addLine(0, 0, 2)", "addLine(0, 0, 3)", "addLine(0, 0, 4)",
                "addLine(1, 0, 1)", "addLine(1, 0, 2)", "addLine(1, 0, 3)", "addLine(1, 0, 4)",
                "signature(0) = 3", "signature(1) = 3", "kind(0, 0) = n", "kind(0, 1) = s",
                "kind(0, 3) = s", "talk() = 2");
        results.rows("promise 16: only mails of the same author",
                "arrive(10, 2, 0, 0) = 0", "arrive(20, 3, 0, 0) = 1",
                "addLine(0, 0, 1) = 1", "addLine(1, 0, 1) = 1",
                "signature(0) = 0", "signature(1) = 0", "arrive(30, 3, 0, 0) = 2",
                "addLine(2, 0, 1) = 1", "signature(0) = 0", "signature(1) = 1");
        results.rows("promise 16: the same order, and no line with marks in either mail",
                "arrive(10, 2, 0, 0) = 0", "arrive(20, 2, 0, 0) = 1",
                "addLine(0, 0, 1) = 1", "addLine(0, 0, 2) = 2",
                "addLine(1, 0, 2) = 1", "addLine(1, 0, 1) = 2",
                "signature(0) = 0", "signature(1) = 0",
                "addLine(1, 0, 2) = 3", "signature(0) = 2", "signature(1) = 2",
                "addLine(0, 1, 3) = 3", "addLine(1, 0, 3) = 4", "signature(0) = 0",
                "signature(1) = 0", "removeLine(1) = 3", "addLine(1, 1, 3) = 4",
                "signature(0) = 0", "removeLine(0) = 2", "addLine(0, 0, 3) = 3",
                "signature(0) = 0", "signature(1) = 0",
                "addLine(0, 0, 4) = 4", "addLine(1, 0, 4) = 5", "signature(0) = 1",
                "signature(1) = 1");
        results.rows("promise 16: a mail without lines has no signature",
                "arrive(10, 2, 0, 0) = 0", "arrive(20, 2, 0, 0) = 1", "signature(0) = 0",
                "addLine(0, 0, 1) = 1", "signature(0) = 0", "signature(1) = 0");
    }

    private static void noSuchLine(Results results) {
        results.rows("promises 13, 14 and 15: the mail and the line must be there",
                "originMail(0, 0)" + NO_SUCH, "originLine(0, 0)" + NO_SUCH,
                "kind(0, 0)" + NO_SUCH, "arrive(10, 0, 0, 0) = 0", "arrive(20, 0, 0, 0) = 1",
                "addLine(1, 0, 1) = 1",
                "originMail(0, 0)" + NO_SUCH, "originLine(0, 0)" + NO_SUCH,
                "kind(0, 0)" + NO_SUCH, "originMail(1, 1)" + NO_SUCH,
                "originLine(1, 1)" + NO_SUCH, "kind(1, 1)" + NO_SUCH,
                "originMail(1, -1)" + NO_SUCH, "originLine(1, -1)" + NO_SUCH,
                "kind(1, -1)" + NO_SUCH, "originMail(2, 0)" + NO_SUCH,
                "originLine(2, 0)" + NO_SUCH, "kind(2, 0)" + NO_SUCH,
                "originMail(-1, 0)" + NO_SUCH, "originLine(-1, 0)" + NO_SUCH,
                "kind(-1, 0)" + NO_SUCH, "kind(0, 8)" + NO_SUCH,
                "originMail(1, 2147483647)" + NO_SUCH, "originLine(1, -2147483648)" + NO_SUCH,
                "kind(0, -2147483648)" + NO_SUCH);
    }
}
