import java.util.ArrayList;
import java.util.Arrays;
import java.util.Collections;
import java.util.List;
import java.util.Random;

/** Calls that fill a new object: from no mails at all to ten mails with eight lines each. */
final class Boxes {
    static final String[] EMPTY = {};
    static final String[] ONE_MAIL = {"arrive(50, 0, 0, 0)"};
    /** Four mails with lines of every kind; the last mail has no lines. */
    static final String[] SMALL = {
        "arrive(20, 1, 3, 10)", "arrive(30, 2, 3, 20)", "arrive(40, 1, 4, 30)",
        "arrive(50, 0, 0, 0)",
        "addLine(0, 1, 7)", "addLine(0, 1, 7)", "addLine(0, 0, 8)", "addLine(0, 0, 9)",
        "addLine(1, 2, 7)", "addLine(1, 1, 8)", "addLine(1, 0, 11)", "addLine(1, 1, 60)",
        "addLine(2, 3, 7)", "addLine(2, 0, 12)", "addLine(2, 0, 9)",
    };
    /** Ten mails with eight lines each, of every kind. */
    static final String[] FULL = full();

    private static final int MOST_MAILS = 10;
    private static final int MOST_LINES = 8;
    private static final int STEPS = 100;

    private Boxes() {
    }

    /** So many mails that answer none, of dates 1, 2, 3 and so on and of one author. */
    static String[] mails(int count) {
        String[] calls = new String[count];
        for (int mail = 0; mail < count; mail++) {
            calls[mail] = "arrive(" + (mail + 1) + ", 0, 0, 0)";
        }
        return calls;
    }

    /** So many mails that all answer the mail of date 1; they have the dates 2, 3 and so on. */
    static String[] answersToDateOne(int count) {
        String[] calls = new String[count];
        for (int mail = 0; mail < count; mail++) {
            calls[mail] = "arrive(" + (mail + 2) + ", 1, 0, 1)";
        }
        return calls;
    }

    /** Adds so many lines with the same marks; their words count up from the first one. */
    static String[] lines(int mail, int count, int marks, int firstWord) {
        String[] calls = new String[count];
        for (int line = 0; line < count; line++) {
            calls[line] = "addLine(" + mail + ", " + marks + ", " + (firstWord + line) + ")";
        }
        return calls;
    }

    /** Ten mails that answer none, with eight lines each, of 80 words without marks. */
    static String[] eightyNewLines() {
        List<String> calls = new ArrayList<>(Arrays.asList(mails(MOST_MAILS)));
        for (int mail = 0; mail < MOST_MAILS; mail++) {
            calls.addAll(Arrays.asList(lines(mail, MOST_LINES, 0, 1 + MOST_LINES * mail)));
        }
        return calls.toArray(new String[0]);
    }

    /**
     * Calls that look random but are the same for the same seed: mails arrive and lines come and
     * go in any order, and no call is refused. Few words and dates make the rare cases common.
     */
    static List<String> random(int seed) {
        Random random = new Random(seed);
        List<Integer> dates = shuffledDates(random);
        int[] lineCounts = new int[MOST_MAILS];
        int words = 2 + random.nextInt(3);
        int marks = 2 + random.nextInt(3);
        int mails = 0;
        List<String> calls = new ArrayList<>();
        for (int step = 0; step < STEPS; step++) {
            int mail = random.nextInt(MOST_MAILS);
            if (mail >= mails) {
                int date = dates.get(mails);
                calls.add("arrive(" + date + ", " + random.nextInt(3) + ", " + random.nextInt(2)
                        + ", " + random.nextInt(date) + ")");
                mails++;
            } else if (lineCounts[mail] > 0 && random.nextInt(8) == 0) {
                calls.add("removeLine(" + mail + ")");
                lineCounts[mail]--;
            } else if (lineCounts[mail] < MOST_LINES) {
                calls.add("addLine(" + mail + ", " + random.nextInt(marks) + ", "
                        + (1 + random.nextInt(words)) + ")");
                lineCounts[mail]++;
            }
        }
        return calls;
    }

    private static List<Integer> shuffledDates(Random random) {
        List<Integer> dates = new ArrayList<>();
        for (int date = 1; date <= MOST_MAILS + 3; date++) {
            dates.add(date);
        }
        Collections.shuffle(dates, random);
        return dates;
    }

    static String[] join(String[]... parts) {
        List<String> all = new ArrayList<>();
        for (String[] part : parts) {
            all.addAll(Arrays.asList(part));
        }
        return all.toArray(new String[0]);
    }

    private static String[] full() {
        String[] mails = {
            "arrive(50, 0, 0, 40)", "arrive(40, 1, 0, 20)", "arrive(60, 5, 0, 50)",
            "arrive(45, 3, 9, 20)", "arrive(70, 4, 1, 60)", "arrive(80, 0, 2, 0)",
            "arrive(1, 1, 9, 0)", "arrive(99, 5, 9, 1)", "arrive(30, 3, 3, 21)",
            "arrive(90, 4, 2, 80)",
        };
        // Each author has two mails and signs them with lines of his own, so that the signatures
        // tell the authors apart.
        return join(mails,
                fill(0, 25, 132, 5, 133, 6, 230, 80, 81), fill(1, 105, 32, 105, 205, 33, 6, 82, 83),
                fill(2, 225, 40, 105, 41, 106, 42, 84, 85),
                fill(3, 105, 106, 43, 206, 44, 45, 86, 87),
                fill(4, 325, 46, 205, 141, 47, 206, 88, 89),
                fill(5, 10, 10, 10, 10, 10, 10, 80, 81), fill(6, 10, 11, 12, 13, 14, 6, 82, 83),
                fill(7, 111, 50, 110, 51, 113, 60, 84, 85),
                fill(8, 105, 310, 105, 205, 106, 52, 86, 87),
                fill(9, 110, 110, 110, 110, 110, 110, 88, 89));
    }

    /** Each number is a line: its marks in the hundreds, its word below. */
    private static String[] fill(int mail, int... marksAndWords) {
        String[] calls = new String[marksAndWords.length];
        for (int line = 0; line < calls.length; line++) {
            calls[line] = "addLine(" + mail + ", " + marksAndWords[line] / 100 + ", "
                    + marksAndWords[line] % 100 + ")";
        }
        return calls;
    }
}
