import java.util.ArrayList;
import java.util.HashMap;
import java.util.HashSet;
import java.util.List;
import java.util.Map;
import java.util.NoSuchElementException;
import java.util.Set;

/**
 * What the document says, written a second time in another way: with objects for mails and lines
 * and with searches over everything, so that it shares no fault with the program by its make.
 */
final class PlainReader {
    private static final class Line {
        final Mail mail;
        final int marks;
        final int word;

        Line(Mail mail, int marks, int word) {
            this.mail = mail;
            this.marks = marks;
            this.word = word;
        }

        int number() {
            for (int i = 0; i < mail.lines.size(); i++) {
                if (mail.lines.get(i) == this) {
                    return i;
                }
            }
            throw new IllegalStateException("a line that is not in its mail");
        }
    }

    private static final class Mail {
        int number;
        int date;
        int author;
        int subject;
        int answered;
        final List<Line> lines = new ArrayList<>();
    }

    private static final Map<String, List<Integer>> KNOWN_ALIGNMENTS = new HashMap<>();

    private final List<Mail> box = new ArrayList<>();

    int arrive(int date, int author, int subject, int answered) {
        boolean datesFit = date >= 1 && date <= 99 && answered >= 0 && answered < date;
        boolean othersFit = author >= 0 && author <= 5 && subject >= 0 && subject <= 9;
        if (!datesFit || !othersFit || withDate(date) != null) {
            throw new IllegalArgumentException();
        }
        if (box.size() == 10) {
            throw new IllegalStateException();
        }
        Mail mail = new Mail();
        mail.number = box.size();
        mail.date = date;
        mail.author = author;
        mail.subject = subject;
        mail.answered = answered;
        box.add(mail);
        return mail.number;
    }

    int addLine(int mail, int marks, int word) {
        Mail found = get(mail);
        if (marks < 0 || marks > 3 || word < 1 || word > 99) {
            throw new IllegalArgumentException();
        }
        if (found.lines.size() == 8) {
            throw new IllegalStateException();
        }
        found.lines.add(new Line(found, marks, word));
        return found.lines.size();
    }

    int removeLine(int mail) {
        Mail found = get(mail);
        if (found.lines.isEmpty()) {
            throw new IllegalStateException();
        }
        found.lines.remove(found.lines.size() - 1);
        return found.lines.size();
    }

    int mails() {
        return box.size();
    }

    int lines(int mail) {
        return get(mail).lines.size();
    }

    int word(int mail, int line) {
        return get(mail, line).word;
    }

    int parent(int mail) {
        Mail parent = parentOf(get(mail));
        if (parent == null) {
            throw new NoSuchElementException();
        }
        return parent.number;
    }

    int missing() {
        Set<Integer> dates = new HashSet<>();
        for (Mail mail : box) {
            if (mail.answered > 0) {
                dates.add(mail.answered);
            }
        }
        for (Mail mail : box) {
            dates.remove(mail.date);
        }
        return dates.size();
    }

    int aligned(int mail) {
        return (int) alignment(get(mail)).stream().filter(partner -> partner != 99).count();
    }

    int alignedByTrying(int mail) {
        return aligned(mail);
    }

    int partner(int mail, int line) {
        Line partner = partnerOf(get(mail, line));
        if (partner == null) {
            throw new NoSuchElementException();
        }
        return partner.number();
    }

    int originMail(int mail, int line) {
        return originOf(get(mail, line)).mail.number;
    }

    int originLine(int mail, int line) {
        return originOf(get(mail, line)).number();
    }

    char kind(int mail, int line) {
        return kindOf(get(mail, line));
    }

    int signature(int mail) {
        return signatureOf(get(mail));
    }

    int answersMail(int mail, int line) {
        return answeredOrThrow(get(mail, line)).mail.number;
    }

    int answersLine(int mail, int line) {
        return answeredOrThrow(get(mail, line)).number();
    }

    int answers(int mail, int line) {
        Line asked = get(mail, line);
        int count = 0;
        for (Line each : allLines()) {
            if (kindOf(each) == 'n' && answeredBy(each) == asked) {
                count++;
            }
        }
        return count;
    }

    int talk() {
        int count = 0;
        for (Line each : allLines()) {
            count += "nr".indexOf(kindOf(each)) >= 0 ? 1 : 0;
        }
        return count;
    }

    int talkByOrigins() {
        return talk();
    }

    int copies(int mail, int line) {
        Line asked = get(mail, line);
        if ("nr".indexOf(kindOf(asked)) < 0) {
            throw new UnsupportedOperationException();
        }
        int count = 0;
        for (Line each : allLines()) {
            count += originOf(each) == asked ? 1 : 0;
        }
        return count;
    }

    int root(int mail) {
        return rootOf(get(mail)).number;
    }

    int rootByRounds(int mail) {
        return root(mail);
    }

    int threads() {
        return heads().size();
    }

    int size(int mail) {
        Mail head = rootOf(get(mail));
        int count = 0;
        for (Mail each : box) {
            count += rootOf(each) == head ? 1 : 0;
        }
        return count;
    }

    float newShare() {
        if (allLines().isEmpty()) {
            throw new ArithmeticException();
        }
        return (float) talk() / (float) allLines().size();
    }

    double meanSize() {
        if (box.isEmpty()) {
            throw new ArithmeticException();
        }
        return (double) box.size() / (double) threads();
    }

    private Mail get(int mail) {
        if (mail < 0 || mail >= box.size()) {
            throw new IndexOutOfBoundsException();
        }
        return box.get(mail);
    }

    private Line get(int mail, int line) {
        List<Line> lines = get(mail).lines;
        if (line < 0 || line >= lines.size()) {
            throw new IndexOutOfBoundsException();
        }
        return lines.get(line);
    }

    private List<Line> allLines() {
        List<Line> all = new ArrayList<>();
        for (Mail mail : box) {
            all.addAll(mail.lines);
        }
        return all;
    }

    private Mail withDate(int date) {
        for (Mail mail : box) {
            if (mail.date == date) {
                return mail;
            }
        }
        return null;
    }

    private Mail parentOf(Mail mail) {
        return mail.answered == 0 ? null : withDate(mail.answered);
    }

    /** For each line of a mail, the number of its partner, or 99 for none. */
    private List<Integer> alignment(Mail mail) {
        Mail parent = parentOf(mail);
        List<Line> parentLines = parent == null ? List.of() : parent.lines;
        String key = text(mail.lines) + "/" + text(parentLines);
        List<Integer> known = KNOWN_ALIGNMENTS.get(key);
        if (known == null) {
            known = bestAlignment(mail.lines, parentLines);
            KNOWN_ALIGNMENTS.put(key, known);
        }
        return known;
    }

    private static String text(List<Line> lines) {
        StringBuilder text = new StringBuilder();
        for (Line line : lines) {
            text.append(line.marks).append(':').append(line.word).append(' ');
        }
        return text.toString();
    }

    private static List<Integer> bestAlignment(List<Line> lines, List<Line> parentLines) {
        List<List<Integer>> all = new ArrayList<>();
        all.add(new ArrayList<>());
        for (Line line : lines) {
            List<List<Integer>> longer = new ArrayList<>();
            for (List<Integer> begun : all) {
                longer.add(with(begun, 99));
                for (int at = lastPartner(begun) + 1; at < parentLines.size(); at++) {
                    Line other = parentLines.get(at);
                    if (other.word == line.word && other.marks + 1 == line.marks) {
                        longer.add(with(begun, at));
                    }
                }
            }
            all = longer;
        }
        List<Integer> best = all.get(0);
        for (List<Integer> each : all) {
            if (isBetter(each, best)) {
                best = each;
            }
        }
        return best;
    }

    private static List<Integer> with(List<Integer> begun, int partner) {
        List<Integer> longer = new ArrayList<>(begun);
        longer.add(partner);
        return longer;
    }

    private static int lastPartner(List<Integer> begun) {
        int last = -1;
        for (int partner : begun) {
            last = partner == 99 ? last : partner;
        }
        return last;
    }

    private static boolean isBetter(List<Integer> one, List<Integer> other) {
        long oneCount = one.stream().filter(partner -> partner != 99).count();
        long otherCount = other.stream().filter(partner -> partner != 99).count();
        if (oneCount != otherCount) {
            return oneCount > otherCount;
        }
        for (int line = 0; line < one.size(); line++) {
            if (!one.get(line).equals(other.get(line))) {
                return one.get(line) < other.get(line);
            }
        }
        return false;
    }

    private Line partnerOf(Line line) {
        int partner = alignment(line.mail).get(line.number());
        return partner == 99 ? null : parentOf(line.mail).lines.get(partner);
    }

    private Line originOf(Line line) {
        Line partner = partnerOf(line);
        return partner == null ? line : originOf(partner);
    }

    private char kindOf(Line line) {
        if (line.marks == 0) {
            int behind = line.mail.lines.size() - 1 - line.number();
            return behind < signatureOf(line.mail) ? 's' : 'n';
        }
        if (partnerOf(line) != null) {
            return 'q';
        }
        boolean parentIsMissing = line.mail.answered != 0 && parentOf(line.mail) == null;
        if (line.marks != 1 || !parentIsMissing) {
            return 'x';
        }
        for (Line other : allLines()) {
            boolean ahead = other.mail == line.mail ? other.number() < line.number()
                    : other.mail.date < line.mail.date;
            if (ahead && other.marks == 1 && other.word == line.word
                    && other.mail.answered == line.mail.answered) {
                return 'd';
            }
        }
        return 'r';
    }

    private int signatureOf(Mail mail) {
        int longest = 0;
        for (Mail other : box) {
            for (int length = 1; length <= 3; length++) {
                String end = unmarkedEnd(mail, length);
                boolean shared = end != null && end.equals(unmarkedEnd(other, length));
                if (other != mail && other.author == mail.author && shared) {
                    longest = Math.max(longest, length);
                }
            }
        }
        return longest;
    }

    /** The words of the last lines as a text; null if there are fewer, or one has marks. */
    private static String unmarkedEnd(Mail mail, int length) {
        int size = mail.lines.size();
        if (length > size) {
            return null;
        }
        List<Line> end = mail.lines.subList(size - length, size);
        for (Line line : end) {
            if (line.marks > 0) {
                return null;
            }
        }
        return text(end);
    }

    private Line answeredBy(Line line) {
        Line nearest = null;
        for (Line ahead : line.mail.lines.subList(0, line.number())) {
            nearest = kindOf(ahead) == 'q' ? ahead : nearest;
        }
        return nearest == null ? null : originOf(nearest);
    }

    private Line answeredOrThrow(Line line) {
        if (kindOf(line) != 'n') {
            throw new UnsupportedOperationException();
        }
        Line answered = answeredBy(line);
        if (answered == null) {
            throw new NoSuchElementException();
        }
        return answered;
    }

    private Mail rootOf(Mail mail) {
        Mail parent = parentOf(mail);
        boolean isHead = parent == null || parent.subject != mail.subject;
        return isHead ? mail : rootOf(parent);
    }

    private Set<Mail> heads() {
        Set<Mail> heads = new HashSet<>();
        for (Mail mail : box) {
            heads.add(rootOf(mail));
        }
        return heads;
    }
}
