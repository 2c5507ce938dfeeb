/** Counts the tests and says which have failed. */
final class Results {
    private int passed;
    private int failed;

    /** One test: it fails if faults holds any text. */
    void record(String name, String faults) {
        if (faults.isEmpty()) {
            passed++;
        } else {
            failed++;
            System.out.println("FAILED " + name);
            System.out.println(faults);
        }
    }

    /**
     * One test of rows such as "addLine(0, 1, 5) = 1", in their order, on a new object; a row
     * without " = " is a call whose answer does not matter here. The same rows are asked of the
     * plain reader, so that it is as trustworthy as the rows are. At the end, an object on which
     * only the changes were made that did not throw must answer everything alike, as no exception
     * and no question may have changed anything; and so must the plain reader.
     */
    void rows(String name, String... rows) {
        TalkRebuilder reader = new TalkRebuilder();
        TalkRebuilder changesAlone = new TalkRebuilder();
        PlainReader plain = new PlainReader();
        StringBuilder faults = new StringBuilder();
        for (String row : rows) {
            String[] parts = row.split(" = ");
            String got = Calls.answer(reader, parts[0]);
            String plainGot = Calls.answer(plain, parts[0]);
            String due = parts.length > 1 ? parts[1].trim() : plainGot;
            if (!got.equals(due)) {
                faults.append("  ").append(parts[0]).append(" answered ").append(got)
                        .append(", due is ").append(due).append('\n');
            }
            if (!plainGot.equals(due)) {
                faults.append("  the plain reader answers ").append(plainGot).append(" to ")
                        .append(parts[0]).append('\n');
            }
            if (Calls.isChange(parts[0]) && !due.startsWith("throws.")) {
                Calls.answer(changesAlone, parts[0]);
            }
        }
        String everything = Calls.everything(reader);
        if (!everything.equals(Calls.everything(changesAlone))) {
            faults.append("  an exception or a question has changed something\n");
        }
        if (!everything.equals(Calls.everything(plain))) {
            faults.append("  at the end, it answers\n").append(everything)
                    .append("  but the plain reader\n").append(Calls.everything(plain));
        }
        record(name, faults.toString());
    }

    boolean sum() {
        System.out.println(passed + " passed, " + failed + " failed");
        return failed == 0 && passed > 0;
    }
}
