import java.util.List;

/** A program object on which the calls of a box were made, asked no more often than is promised. */
final class Asked {
    /** Stands for any exception. */
    static final int THROWN = -1;

    final Told told;
    private final Object reader;
    private int made;

    Asked(List<String> calls) {
        told = new Told(calls);
        reader = Replay.after(TalkRebuilder::new, calls);
        made = calls.size();
    }

    String text(String name, int... arguments) {
        made++;
        if (made > Calls.MOST) {
            throw new IllegalStateException("nothing is promised after 512 calls");
        }
        return Calls.answerTo(reader, name, arguments);
    }

    int number(String name, int... arguments) {
        String answer = text(name, arguments);
        return answer.startsWith("throws.") ? THROWN : Integer.parseInt(answer);
    }

    /** The kinds of all lines, a text a mail. */
    String[] kinds() {
        String[] kinds = new String[told.mails.size()];
        for (int mail = 0; mail < kinds.length; mail++) {
            StringBuilder text = new StringBuilder();
            for (int line = 0; line < told.mails.get(mail).lines.size(); line++) {
                text.append(text("kind", mail, line));
            }
            kinds[mail] = text.toString();
        }
        return kinds;
    }

    /** The answers of a call for each mail. */
    int[] ofMails(String name) {
        int[] answers = new int[told.mails.size()];
        for (int mail = 0; mail < answers.length; mail++) {
            answers[mail] = number(name, mail);
        }
        return answers;
    }

    /** The answers of a call for each line of each mail. */
    int[][] ofLines(String name) {
        int[][] answers = told.rows();
        for (int mail = 0; mail < answers.length; mail++) {
            for (int line = 0; line < answers[mail].length; line++) {
                answers[mail][line] = number(name, mail, line);
            }
        }
        return answers;
    }
}
