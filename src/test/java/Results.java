import java.util.ArrayList;
import java.util.Arrays;
import java.util.LinkedHashSet;
import java.util.List;
import java.util.Set;

/** Counts the tests and says which have failed. */
final class Results {
    private static final String THROWS = "throws.";
    private static final String NO_SUCH = THROWS + "IndexOutOfBoundsException";
    private static final String MAIL_NUMBER = "`mail`: the number of the mail; Throws"
            + " `IndexOutOfBoundsException` if there is no such mail | ";
    private static final String LINE_NUMBER = "`line`: the number of the line; Throws"
            + " `IndexOutOfBoundsException` if there is no such mail or no such line | ";
    private static final String NUMBER_OF_MAIL = "`mail`: the number of the mail; Throws"
            + " `IndexOutOfBoundsException` if there is no such mail or no such line | ";

    private int passed;
    private int failed;

    /** One test: it fails if faults holds any text. */
    void record(String name, String faults) {
        if (faults.isEmpty()) {
            passed++;
        } else {
            failed++;
            System.out.println("FAILED " + name);
            System.out.println(faults);
        }
    }

    /**
     * One test of rows such as "addLine(0, 1, 5) = 1", in their order, on a new object; a row
     * without " = " is a call whose answer does not matter here. The same rows are asked of the
     * plain reader, so that it is as trustworthy as the rows are. At the end, an object on which
     * only the changes were made that did not throw must answer everything alike, as no exception
     * and no question may have changed anything; and so must the plain reader.
     */
    void rows(String name, String... rows) {
        TalkRebuilder reader = new TalkRebuilder();
        PlainReader plain = new PlainReader();
        List<String> calls = new ArrayList<>();
        List<String> changesAlone = new ArrayList<>();
        StringBuilder faults = new StringBuilder();
        for (String row : rows) {
            String call = callOf(row);
            String plainGot = Calls.answer(plain, call);
            String due = row.contains(" = ") ? answerOf(row) : plainGot;
            faults.append(difference(call, Calls.answer(reader, call), due));
            faults.append(difference("the plain reader: " + call, plainGot, due));
            calls.add(call);
            if (Calls.isChange(call) && !due.startsWith(THROWS)) {
                changesAlone.add(call);
            }
        }
        String everything = Replay.everythingAfter(TalkRebuilder::new, calls);
        if (!everything.equals(Replay.everythingAfter(TalkRebuilder::new, changesAlone))) {
            faults.append("  an exception or a question has changed something\n");
        }
        String plainEverything = Replay.everythingAfter(PlainReader::new, calls);
        if (!everything.equals(plainEverything)) {
            faults.append("  at the end, it answers\n").append(everything)
                    .append("  but the plain reader\n").append(plainEverything);
        }
        record(name, faults.toString());
    }

    /**
     * One test of calls that must throw, each one on an object of its own on which the calls that
     * fill the box were made: all other calls must answer after it as without it.
     */
    void refused(String name, String[] box, String... rows) {
        String unrefused = Replay.futureAfter(TalkRebuilder::new, Arrays.asList(box));
        StringBuilder faults = new StringBuilder();
        for (String row : rows) {
            List<String> calls = new ArrayList<>(Arrays.asList(box));
            String call = callOf(row);
            Object reader = Replay.after(TalkRebuilder::new, calls);
            Object plain = Replay.after(PlainReader::new, calls);
            faults.append(difference(call, Calls.answer(reader, call), answerOf(row)));
            faults.append(difference("the plain reader: " + call, Calls.answer(plain, call),
                    answerOf(row)));
            calls.add(call);
            if (!Replay.futureAfter(TalkRebuilder::new, calls).equals(unrefused)) {
                faults.append("  ").append(call).append(" has changed something\n");
            }
        }
        record(name, faults.toString());
    }

    /**
     * One test of a parameter, whose place in the call is held by '#': each number from the
     * lowest to the highest is taken, and those beside, the lowest and the highest int and those
     * that wrap round into the range are refused. There is no such range if lowest is greater.
     */
    void range(String name, String[] box, String call, int lowest, int highest, String thrown) {
        StringBuilder faults = new StringBuilder();
        for (int number = lowest; number <= highest; number++) {
            faults.append(takenFaults(box, with(call, number), thrown));
        }
        record(name + ", taken", faults.toString());
        List<String> rows = new ArrayList<>();
        for (int number : numbersOutside(lowest, highest)) {
            rows.add(with(call, number) + " = " + thrown);
        }
        refused(name + ", refused", box, rows.toArray(new String[0]));
    }

    /** The mail's number, held by '#', on an empty box, one of a mail, a small and a full one. */
    void mailNumbers(String promise, String call) {
        String name = promise + MAIL_NUMBER;
        range(name + "an empty box", Boxes.EMPTY, call, 0, -1, NO_SUCH);
        range(name + "one mail", Boxes.ONE_MAIL, call, 0, 0, NO_SUCH);
        range(name + "four mails", Boxes.SMALL, call, 0, 3, NO_SUCH);
        range(name + "a full box", Boxes.FULL, call, 0, 9, NO_SUCH);
    }

    /** The mail's and the line's number of a call with both, on mails of 0 to 8 lines. */
    void lineNumbers(String promise, String method) {
        String name = promise + LINE_NUMBER;
        range(name + "one mail without lines", Boxes.ONE_MAIL, method + "(0, #)", 0, -1, NO_SUCH);
        range(name + "the last mail, without lines", Boxes.SMALL, method + "(3, #)", 0, -1,
                NO_SUCH);
        range(name + "three lines", Boxes.SMALL, method + "(2, #)", 0, 2, NO_SUCH);
        range(name + "four lines", Boxes.SMALL, method + "(0, #)", 0, 3, NO_SUCH);
        for (int mail : new int[] {0, 5, 9}) {
            range(name + "eight lines in mail " + mail, Boxes.FULL,
                    method + "(" + mail + ", #)", 0, 7, NO_SUCH);
        }
        name = promise + NUMBER_OF_MAIL;
        range(name + "an empty box", Boxes.EMPTY, method + "(#, 0)", 0, -1, NO_SUCH);
        range(name + "four mails, the last without lines", Boxes.SMALL, method + "(#, 0)", 0, 2,
                NO_SUCH);
        range(name + "a full box", Boxes.FULL, method + "(#, 7)", 0, 9, NO_SUCH);
        refused(name + "neither the mail nor the line", Boxes.SMALL,
                method + "(4, 8) = " + NO_SUCH, method + "(-1, -1) = " + NO_SUCH,
                method + "(-1, 8) = " + NO_SUCH, method + "(4, -8) = " + NO_SUCH,
                method + "(-2147483648, 2147483647) = " + NO_SUCH,
                method + "(2147483647, -2147483648) = " + NO_SUCH);
    }

    private static String takenFaults(String[] box, String call, String thrown) {
        List<String> calls = Arrays.asList(box);
        String got = Calls.answer(Replay.after(TalkRebuilder::new, calls), call);
        String due = Calls.answer(Replay.after(PlainReader::new, calls), call);
        String faults = difference(call, got, due);
        return got.equals(thrown) ? faults + "  " + call + " is refused\n" : faults;
    }

    private static Set<Integer> numbersOutside(int lowest, int highest) {
        Set<Integer> numbers = new LinkedHashSet<>(Arrays.asList(lowest - 1, highest + 1,
                Integer.MIN_VALUE, Integer.MAX_VALUE, lowest - 8, highest + 8));
        // Numbers that come back into the range in a byte, a short, or times 8 or 16 in an int.
        for (int wrap : new int[] {1 << 8, 1 << 16, 1 << 28, 1 << 29, 1 << 30, 1 << 31}) {
            numbers.add(lowest + wrap);
            numbers.add(highest + wrap);
        }
        numbers.removeIf(number -> number >= lowest && number <= highest);
        return numbers;
    }

    private static String with(String call, int number) {
        return call.replace("#", String.valueOf(number));
    }

    private static String callOf(String row) {
        return row.split(" = ")[0];
    }

    private static String answerOf(String row) {
        return row.split(" = ")[1].trim();
    }

    private static String difference(String call, String got, String due) {
        return got.equals(due) ? ""
                : "  " + call + " answered " + got + ", due is " + due + "\n";
    }

    boolean sum() {
        System.out.println(passed + " passed, " + failed + " failed");
        return failed == 0 && passed > 0;
    }
}
