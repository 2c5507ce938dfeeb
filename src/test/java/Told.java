import java.util.ArrayList;
import java.util.List;

/** What the calls that fill a box tell of its mails and lines; none of them may be refused. */
final class Told {
    static final class Line {
        final int marks;
        final int word;

        Line(int marks, int word) {
            this.marks = marks;
            this.word = word;
        }
    }

    static final class Mail {
        final int date;
        final int author;
        final int subject;
        final int answered;
        final List<Line> lines = new ArrayList<>();

        Mail(int date, int author, int subject, int answered) {
            this.date = date;
            this.author = author;
            this.subject = subject;
            this.answered = answered;
        }
    }

    final List<Mail> mails = new ArrayList<>();

    Told(List<String> calls) {
        for (String call : calls) {
            take(Calls.nameOf(call), Calls.argumentsOf(call));
        }
    }

    private void take(String name, int[] numbers) {
        if (name.equals("arrive")) {
            mails.add(new Mail(numbers[0], numbers[1], numbers[2], numbers[3]));
        } else if (name.equals("addLine")) {
            mails.get(numbers[0]).lines.add(new Line(numbers[1], numbers[2]));
        } else if (name.equals("removeLine")) {
            List<Line> lines = mails.get(numbers[0]).lines;
            lines.remove(lines.size() - 1);
        } else {
            throw new IllegalArgumentException("not a call that changes a box: " + name);
        }
    }

    /** A number for each line of each mail, to be filled in. */
    int[][] rows() {
        int[][] rows = new int[mails.size()][];
        for (int mail = 0; mail < rows.length; mail++) {
            rows[mail] = new int[mails.get(mail).lines.size()];
        }
        return rows;
    }

    /** Whether a line could be the partner of another one, each with the number of its mail. */
    boolean canPair(int mail, int line, int otherMail, int otherLine) {
        Line one = mails.get(mail).lines.get(line);
        Line other = mails.get(otherMail).lines.get(otherLine);
        return one.word == other.word && one.marks == other.marks + 1;
    }

    int lineCount() {
        int count = 0;
        for (Mail mail : mails) {
            count += mail.lines.size();
        }
        return count;
    }

    /** Whether the mail answers one that has not arrived. */
    boolean answersMissing(Mail mail) {
        boolean isMissing = mail.answered > 0;
        for (Mail other : mails) {
            isMissing = isMissing && other.date != mail.answered;
        }
        return isMissing;
    }
}
