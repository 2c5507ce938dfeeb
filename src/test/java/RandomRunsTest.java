import java.util.Random;

/**
 * Long runs of calls that look random but are the same every time, with each answer compared to
 * that of the plain reader. Few words, dates and authors make the rare cases common.
 */
final class RandomRunsTest {
    private final Random random;
    private final int words;
    private final int dates;
    private final int authors;
    private final boolean quotesOften;

    private RandomRunsTest(int seed) {
        random = new Random(seed);
        words = 1 + random.nextInt(4);
        dates = 11 + random.nextInt(15);
        authors = 1 + random.nextInt(3);
        quotesOften = random.nextBoolean();
    }

    static void run(Results results, int runs) {
        for (int seed = 1; seed <= runs; seed++) {
            String faults = new RandomRunsTest(seed).oneRun();
            if (!faults.isEmpty() || seed == runs) {
                results.record("promises 1 to 28: random run " + seed, faults);
                return;
            }
        }
    }

    private String oneRun() {
        TalkRebuilder reader = new TalkRebuilder();
        PlainReader plain = new PlainReader();
        StringBuilder calls = new StringBuilder();
        for (int made = 0; made < Calls.MOST; made++) {
            String call = nextCall(made);
            String got = Calls.answer(reader, call);
            String due = Calls.answer(plain, call);
            calls.append("  ").append(call).append(" = ").append(got).append('\n');
            if (!got.equals(due)) {
                return calls + "  due is " + due;
            }
        }
        return "";
    }

    /** Changes in the first half, so that the second half asks of a full box. */
    private String nextCall(int made) {
        boolean changes = random.nextInt(100) < (made < Calls.MOST / 2 ? 70 : 10);
        if (random.nextInt(60) == 0) {
            return wrongCall();
        }
        return changes ? change() : question();
    }

    private String change() {
        int choice = random.nextInt(20);
        if (choice < 3) {
            int date = 1 + random.nextInt(dates);
            int answered = random.nextInt(5) == 0 ? 0 : random.nextInt(date);
            return call("arrive", date, random.nextInt(authors), random.nextInt(2), answered);
        }
        if (choice < 5) {
            return call("removeLine", someMail());
        }
        int marks = random.nextInt(quotesOften ? 4 : 2);
        return call("addLine", someMail(), marks, 1 + random.nextInt(words));
    }

    private String question() {
        int choice = random.nextInt(24);
        if (choice < Calls.ASK_ALL.length) {
            return call(Calls.ASK_ALL[choice]);
        }
        choice -= Calls.ASK_ALL.length;
        if (choice < Calls.ASK_MAIL.length) {
            return call(Calls.ASK_MAIL[choice], someMail());
        }
        choice -= Calls.ASK_MAIL.length;
        int line = random.nextInt(20) == 0 ? random.nextInt(10) - 1 : random.nextInt(8);
        return call(Calls.ASK_LINE[choice], someMail(), line);
    }

    private int someMail() {
        return random.nextInt(40) == 0 ? random.nextInt(14) - 2 : random.nextInt(10);
    }

    private String wrongCall() {
        int far = random.nextInt();
        if (random.nextBoolean()) {
            return call("arrive", random.nextInt(104) - 2, random.nextInt(10) - 2,
                    random.nextInt(14) - 2, random.nextInt(104) - 2);
        }
        if (random.nextBoolean()) {
            return call("addLine", someMail(), random.nextInt(8) - 2, random.nextInt(104) - 2);
        }
        String name = Calls.ASK_LINE[random.nextInt(Calls.ASK_LINE.length)];
        return random.nextBoolean() ? call(name, far, someMail()) : call(name, someMail(), far);
    }

    private static String call(String name, int... arguments) {
        StringBuilder call = new StringBuilder(name).append('(');
        for (int i = 0; i < arguments.length; i++) {
            call.append(i == 0 ? "" : ", ").append(arguments[i]);
        }
        return call.append(')').toString();
    }
}
