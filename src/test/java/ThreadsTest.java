/** Promises 23 to 28: roots, threads and the two means. */
final class ThreadsTest {
    private static final String NO_SUCH = " = throws.IndexOutOfBoundsException";

    private ThreadsTest() {
    }

    static void run(Results results) {
        roots(results);
        longChain(results);
        threads(results);
        newShare(results);
        meanSize(results);
    }

    private static void roots(Results results) {
        results.rows("promises 23 and 24: a changed subject begins a thread",
                "root(0)" + NO_SUCH, "rootByRounds(0)" + NO_SUCH,
                "arrive(10, 0, 1, 0) = 0", "arrive(20, 0, 1, 10) = 1", "arrive(30, 0, 2, 20) = 2",
                "arrive(40, 0, 2, 30) = 3", "arrive(50, 0, 1, 40) = 4", "arrive(60, 0, 1, 0) = 5",
                "root(0) = 0", "rootByRounds(0) = 0", "root(1) = 0", "rootByRounds(1) = 0",
                "root(2) = 2", "rootByRounds(2) = 2", "root(3) = 2", "rootByRounds(3) = 2",
                "root(4) = 4", "rootByRounds(4) = 4", "root(5) = 5", "rootByRounds(5) = 5",
                "root(6)" + NO_SUCH, "rootByRounds(6)" + NO_SUCH,
                "root(-1)" + NO_SUCH, "rootByRounds(-1)" + NO_SUCH);
        results.rows("promises 23 and 24: a mail whose parent is missing is a root until it comes",
                "arrive(40, 0, 1, 30) = 0", "arrive(50, 0, 1, 30) = 1",
                "root(0) = 0", "rootByRounds(0) = 0", "root(1) = 1", "rootByRounds(1) = 1",
                "threads() = 2", "arrive(30, 0, 1, 0) = 2",
                "root(0) = 2", "rootByRounds(0) = 2", "root(1) = 2", "rootByRounds(1) = 2",
                "threads() = 1", "size(1) = 3");
    }

    private static void longChain(Results results) {
        results.rows("promises 23 and 24: ten mails in one chain, the last ones first",
                "arrive(10, 0, 4, 9)", "arrive(9, 0, 4, 8)", "arrive(8, 0, 4, 7)",
                "arrive(7, 0, 4, 6)", "arrive(6, 0, 4, 5)", "arrive(5, 0, 4, 4)",
                "arrive(5, 0, 4, 4)", "arrive(4, 0, 4, 3)", "arrive(3, 0, 4, 2)",
                "arrive(2, 0, 4, 1)", "arrive(1, 0, 4, 0) = 9",
                "root(0) = 9", "rootByRounds(0) = 9", "root(5) = 9", "rootByRounds(5) = 9",
                "root(9) = 9", "rootByRounds(9) = 9", "threads() = 1", "size(0) = 10",
                "meanSize() = 10.0");
    }

    private static void threads(Results results) {
        results.rows("promises 25 and 26: threads and their sizes",
                "threads() = 0", "size(0)" + NO_SUCH,
                "arrive(10, 0, 1, 0) = 0", "threads() = 1", "size(0) = 1",
                "arrive(20, 0, 1, 10) = 1", "threads() = 1", "size(0) = 2", "size(1) = 2",
                "arrive(30, 0, 2, 20) = 2", "threads() = 2", "size(2) = 1", "size(0) = 2",
                "arrive(40, 0, 1, 10) = 3", "threads() = 2", "size(3) = 3", "size(1) = 3",
                "arrive(50, 0, 1, 0) = 4", "threads() = 3", "size(4) = 1", "size(3) = 3",
                "size(5)" + NO_SUCH, "size(-1)" + NO_SUCH);
    }

    private static void newShare(Results results) {
        String noLines = " = throws.ArithmeticException";
        results.rows("promise 27: the share of the talk, as a float",
                "newShare()" + noLines, "arrive(10, 0, 1, 0) = 0", "newShare()" + noLines,
                "addLine(0, 1, 1) = 1", "newShare() = 0.0", "addLine(0, 0, 2) = 2",
                "newShare() = 0.5", "addLine(0, 2, 2) = 3", "newShare() = " + (1f / 3f),
                "arrive(20, 0, 1, 5) = 1", "addLine(1, 1, 3) = 1", "newShare() = 0.5",
                "removeLine(0) = 2", "removeLine(0) = 1", "removeLine(0) = 0",
                "newShare() = 1.0", "removeLine(1) = 0", "newShare()" + noLines);
    }

    private static void meanSize(Results results) {
        results.rows("promise 28: the mean size of a thread, as a double",
                "meanSize() = throws.ArithmeticException", "arrive(10, 0, 1, 0) = 0",
                "meanSize() = 1.0", "arrive(20, 0, 1, 10) = 1", "meanSize() = 2.0",
                "arrive(30, 0, 2, 10) = 2", "meanSize() = 1.5", "arrive(40, 0, 2, 0) = 3",
                "meanSize() = " + (4d / 3d));
    }
}
