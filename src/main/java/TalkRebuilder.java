import java.util.NoSuchElementException;

/**
 * A reader of mail threads: who answered what, which lines are quoted and from where,
 * which are signatures, and what remains as the talk itself.
 *
 * <p>A line is known inside by its place: the number of its mail times MAX_LINES, plus its own
 * number. The partner of each line is kept up to date by every change; all else is found when it
 * is asked for.
 */
public final class TalkRebuilder {
    private static final int MAX_MAILS = 10;
    private static final int MAX_LINES = 8;
    private static final int MAX_DATE = 99;
    private static final int MAX_AUTHOR = 5;
    private static final int MAX_SUBJECT = 9;
    private static final int MAX_MARKS = 3;
    private static final int MAX_WORD = 99;
    private static final int MAX_SIGNATURE = 3;
    private static final int PLACES = MAX_MAILS * MAX_LINES;
    private static final int NONE = -1;

    private int mailCount;
    private final int[] dates;
    private final int[] authors;
    private final int[] subjects;
    private final int[] answeredDates;
    private final int[] lineCounts;

    private final int[] marksAt;
    private final int[] wordsAt;
    /** The place of each line's partner, or NONE; NONE too where no line stands. */
    private final int[] partnersAt;

    /** Made once and used again by every call that needs it. */
    private final Alignment alignment;
    private final boolean[] counted;
    private final int[] roots;

    public TalkRebuilder() {
        mailCount = 0;
        dates = new int[MAX_MAILS];
        authors = new int[MAX_MAILS];
        subjects = new int[MAX_MAILS];
        answeredDates = new int[MAX_MAILS];
        lineCounts = new int[MAX_MAILS];
        marksAt = new int[PLACES];
        wordsAt = new int[PLACES];
        partnersAt = new int[PLACES];
        for (int place = 0; place < PLACES; place++) {
            partnersAt[place] = NONE;
        }
        alignment = new Alignment();
        counted = new boolean[PLACES];
        roots = new int[MAX_MAILS];
    }

    // ---- mails

    public int arrive(int date, int author, int subject, int answered)
            throws IllegalArgumentException, IllegalStateException {
        if (!isWithin(date, 1, MAX_DATE) || !isWithin(author, 0, MAX_AUTHOR)
                || !isWithin(subject, 0, MAX_SUBJECT) || !isWithin(answered, 0, date - 1)) {
            throw new IllegalArgumentException("a number is out of range");
        }
        if (mailOfDate(date) != NONE) {
            throw new IllegalArgumentException("a mail has this date");
        }
        if (mailCount >= MAX_MAILS) {
            throw new IllegalStateException("the box is full");
        }
        int mail = mailCount;
        dates[mail] = date;
        authors[mail] = author;
        subjects[mail] = subject;
        answeredDates[mail] = answered;
        mailCount++;
        return mail;
    }

    public int addLine(int mail, int marks, int word)
            throws IndexOutOfBoundsException, IllegalArgumentException, IllegalStateException {
        requireMail(mail);
        if (!isWithin(marks, 0, MAX_MARKS) || !isWithin(word, 1, MAX_WORD)) {
            throw new IllegalArgumentException("a number is out of range");
        }
        if (lineCounts[mail] >= MAX_LINES) {
            throw new IllegalStateException("the mail is full");
        }
        int place = placeOf(mail, lineCounts[mail]);
        marksAt[place] = marks;
        wordsAt[place] = word;
        lineCounts[mail]++;
        realignAround(mail);
        return lineCounts[mail];
    }

    public int removeLine(int mail) throws IndexOutOfBoundsException, IllegalStateException {
        requireMail(mail);
        if (lineCounts[mail] <= 0) {
            throw new IllegalStateException("the mail has no lines");
        }
        lineCounts[mail]--;
        realignAround(mail);
        return lineCounts[mail];
    }

    public int mails() {
        return mailCount;
    }

    public int lines(int mail) throws IndexOutOfBoundsException {
        requireMail(mail);
        return lineCounts[mail];
    }

    public int word(int mail, int line) throws IndexOutOfBoundsException {
        requireLine(mail, line);
        return wordsAt[placeOf(mail, line)];
    }

    public int parent(int mail) throws IndexOutOfBoundsException, NoSuchElementException {
        requireMail(mail);
        int parent = parentOf(mail);
        if (parent == NONE) {
            throw new NoSuchElementException("the mail has no parent");
        }
        return parent;
    }

    public int missing() {
        int dateCount = 0;
        for (int mail = 0; mail < mailCount; mail++) {
            if (answersMissing(mail) && isFirstToAnswerItsDate(mail)) {
                dateCount++;
            }
        }
        return dateCount;
    }

    // ---- quoting

    public int aligned(int mail) throws IndexOutOfBoundsException {
        requireMail(mail);
        faceParent(mail);
        alignment.fillTable();
        return alignment.mostPartners();
    }

    public int alignedByTrying(int mail) throws IndexOutOfBoundsException {
        requireMail(mail);
        faceParent(mail);
        return alignment.mostPartnersByTrying();
    }

    public int partner(int mail, int line)
            throws IndexOutOfBoundsException, NoSuchElementException {
        requireLine(mail, line);
        int place = placeOf(mail, line);
        if (!hasPartner(place)) {
            throw new NoSuchElementException("the line has no partner");
        }
        return lineAt(partnersAt[place]);
    }

    public int originMail(int mail, int line) throws IndexOutOfBoundsException {
        requireLine(mail, line);
        return mailAt(originOf(placeOf(mail, line)));
    }

    public int originLine(int mail, int line) throws IndexOutOfBoundsException {
        requireLine(mail, line);
        return lineAt(originOf(placeOf(mail, line)));
    }

    public char kind(int mail, int line) throws IndexOutOfBoundsException {
        requireLine(mail, line);
        return kindAt(placeOf(mail, line));
    }

    public int signature(int mail) throws IndexOutOfBoundsException {
        requireMail(mail);
        return signatureLength(mail);
    }

    // ---- talk

    public int answersMail(int mail, int line)
            throws IndexOutOfBoundsException, UnsupportedOperationException,
            NoSuchElementException {
        requireLine(mail, line);
        return mailAt(requireAnswered(placeOf(mail, line)));
    }

    public int answersLine(int mail, int line)
            throws IndexOutOfBoundsException, UnsupportedOperationException,
            NoSuchElementException {
        requireLine(mail, line);
        return lineAt(requireAnswered(placeOf(mail, line)));
    }

    public int answers(int mail, int line) throws IndexOutOfBoundsException {
        requireLine(mail, line);
        int asked = placeOf(mail, line);
        int answerCount = 0;
        for (int place = 0; place < PLACES; place++) {
            if (isNew(place) && answeredBy(place) == asked) {
                answerCount++;
            }
        }
        return answerCount;
    }

    public int talk() {
        int talkCount = 0;
        for (int place = 0; place < PLACES; place++) {
            if (isInTalk(place)) {
                talkCount++;
            }
        }
        return talkCount;
    }

    public int talkByOrigins() {
        for (int place = 0; place < PLACES; place++) {
            counted[place] = false;
        }
        int talkCount = 0;
        for (int place = 0; place < PLACES; place++) {
            if (isLine(place) && countOnce(originOf(place))) {
                talkCount++;
            }
        }
        return talkCount;
    }

    public int copies(int mail, int line)
            throws IndexOutOfBoundsException, UnsupportedOperationException {
        requireLine(mail, line);
        int asked = placeOf(mail, line);
        if (!isInTalk(asked)) {
            throw new UnsupportedOperationException("the line is not in the talk");
        }
        int copyCount = 0;
        for (int place = 0; place < PLACES; place++) {
            if (isLine(place) && originOf(place) == asked) {
                copyCount++;
            }
        }
        return copyCount;
    }

    // ---- threads

    public int root(int mail) throws IndexOutOfBoundsException {
        requireMail(mail);
        return rootOf(mail);
    }

    public int rootByRounds(int mail) throws IndexOutOfBoundsException {
        requireMail(mail);
        for (int other = 0; other < mailCount; other++) {
            roots[other] = other;
        }
        // A mail's root is settled one round after its parent's at the latest.
        for (int round = 0; round < mailCount; round++) {
            takeRootsOfParents();
        }
        return roots[mail];
    }

    public int threads() {
        int headCount = 0;
        for (int mail = 0; mail < mailCount; mail++) {
            if (rootOf(mail) == mail) {
                headCount++;
            }
        }
        return headCount;
    }

    public int size(int mail) throws IndexOutOfBoundsException {
        requireMail(mail);
        int head = rootOf(mail);
        int memberCount = 0;
        for (int other = 0; other < mailCount; other++) {
            if (rootOf(other) == head) {
                memberCount++;
            }
        }
        return memberCount;
    }

    public float newShare() throws ArithmeticException {
        int lineCount = 0;
        for (int mail = 0; mail < mailCount; mail++) {
            lineCount += lineCounts[mail];
        }
        if (lineCount == 0) {
            throw new ArithmeticException("there are no lines");
        }
        return (float) talk() / (float) lineCount;
    }

    public double meanSize() throws ArithmeticException {
        int threadCount = threads();
        if (threadCount == 0) {
            throw new ArithmeticException("there are no mails");
        }
        return (double) mailCount / (double) threadCount;
    }

    // ---- what is asked for, tested

    private static boolean isWithin(int number, int lowest, int highest) {
        return number >= lowest && number <= highest;
    }

    private void requireMail(int mail) {
        if (!isWithin(mail, 0, mailCount - 1)) {
            throw new IndexOutOfBoundsException("no such mail");
        }
    }

    private void requireLine(int mail, int line) {
        requireMail(mail);
        if (!isWithin(line, 0, lineCounts[mail] - 1)) {
            throw new IndexOutOfBoundsException("no such line");
        }
    }

    /** The place of the line that the new line at this place answers. */
    private int requireAnswered(int place) {
        if (!isNew(place)) {
            throw new UnsupportedOperationException("the line is not new");
        }
        int answered = answeredBy(place);
        if (answered == NONE) {
            throw new NoSuchElementException("the line answers none");
        }
        return answered;
    }

    // ---- places

    private static int placeOf(int mail, int line) {
        return mail * MAX_LINES + line;
    }

    private static int mailAt(int place) {
        return place / MAX_LINES;
    }

    private static int lineAt(int place) {
        return place % MAX_LINES;
    }

    private boolean isLine(int place) {
        return isWithin(place, 0, PLACES - 1) && lineAt(place) < lineCounts[mailAt(place)];
    }

    // ---- parents

    private int mailOfDate(int date) {
        for (int mail = 0; mail < mailCount; mail++) {
            if (dates[mail] == date) {
                return mail;
            }
        }
        return NONE;
    }

    /** A mail that answers none has 0 as the date answered, which no mail has as its own. */
    private int parentOf(int mail) {
        return mailOfDate(answeredDates[mail]);
    }

    private boolean answersMissing(int mail) {
        return answeredDates[mail] != 0 && parentOf(mail) == NONE;
    }

    private boolean isFirstToAnswerItsDate(int mail) {
        for (int other = 0; other < mail; other++) {
            if (answeredDates[other] == answeredDates[mail]) {
                return false;
            }
        }
        return true;
    }

    // ---- partners and origins

    /** The lines of a mail take part in its own alignment and in those of its answers. */
    private void realignAround(int mail) {
        for (int other = 0; other < mailCount; other++) {
            if (other == mail || parentOf(other) == mail) {
                realign(other);
            }
        }
    }

    private void realign(int mail) {
        faceParent(mail);
        alignment.fillTable();
        int parent = parentOf(mail);
        int from = 0;
        for (int line = 0; line < MAX_LINES; line++) {
            int parentLine = alignment.earliestPartner(line, from);
            if (parent == NONE || parentLine == NONE) {
                partnersAt[placeOf(mail, line)] = NONE;
            } else {
                partnersAt[placeOf(mail, line)] = placeOf(parent, parentLine);
                from = parentLine + 1;
            }
        }
    }

    /** Puts the lines of a mail and those of its parent, if it has one, into the alignment. */
    private void faceParent(int mail) {
        alignment.clear();
        int parent = parentOf(mail);
        if (parent == NONE) {
            return;
        }
        for (int line = 0; line < lineCounts[mail]; line++) {
            int place = placeOf(mail, line);
            alignment.putLine(line, marksAt[place], wordsAt[place]);
        }
        for (int line = 0; line < lineCounts[parent]; line++) {
            int place = placeOf(parent, line);
            alignment.putParentLine(line, marksAt[place], wordsAt[place]);
        }
    }

    private boolean hasPartner(int place) {
        return isLine(place) && partnersAt[place] != NONE;
    }

    /** Each partner has one mark less, so the way to the origin has at most MAX_MARKS steps. */
    private int originOf(int place) {
        int origin = place;
        for (int step = 0; step < MAX_MARKS && hasPartner(origin); step++) {
            origin = partnersAt[origin];
        }
        return origin;
    }

    // ---- kinds

    private char kindAt(int place) {
        int mail = mailAt(place);
        if (marksAt[place] == 0) {
            boolean signs = lineAt(place) >= lineCounts[mail] - signatureLength(mail);
            return signs ? 's' : 'n';
        }
        if (hasPartner(place)) {
            return 'q';
        }
        if (marksAt[place] == 1 && answersMissing(mail)) {
            return isDouble(place) ? 'd' : 'r';
        }
        return 'x';
    }

    private boolean isDouble(int place) {
        for (int other = 0; other < PLACES; other++) {
            if (isLine(other) && marksAt[other] == 1 && wordsAt[other] == wordsAt[place]
                    && answeredDates[mailAt(other)] == answeredDates[mailAt(place)]
                    && isEarlier(other, place)) {
                return true;
            }
        }
        return false;
    }

    private boolean isEarlier(int place, int than) {
        if (mailAt(place) == mailAt(than)) {
            return place < than;
        }
        return dates[mailAt(place)] < dates[mailAt(than)];
    }

    private int signatureLength(int mail) {
        int longest = 0;
        for (int other = 0; other < mailCount; other++) {
            if (other != mail && authors[other] == authors[mail]) {
                longest = Math.max(longest, commonEnd(mail, other));
            }
        }
        return longest;
    }

    /** The number of last lines without marks that both mails share, up to MAX_SIGNATURE. */
    private int commonEnd(int mail, int other) {
        int most = Math.min(MAX_SIGNATURE, Math.min(lineCounts[mail], lineCounts[other]));
        for (int length = 0; length < most; length++) {
            int place = placeOf(mail, lineCounts[mail] - 1 - length);
            int otherPlace = placeOf(other, lineCounts[other] - 1 - length);
            if (marksAt[place] != 0 || marksAt[otherPlace] != 0
                    || wordsAt[place] != wordsAt[otherPlace]) {
                return length;
            }
        }
        return most;
    }

    // ---- talk, inside

    private boolean isNew(int place) {
        return isLine(place) && kindAt(place) == 'n';
    }

    private boolean isInTalk(int place) {
        if (!isLine(place)) {
            return false;
        }
        char kind = kindAt(place);
        return kind == 'n' || kind == 'r';
    }

    /** The origin of the nearest quoted line ahead in the same mail; NONE if there is none. */
    private int answeredBy(int place) {
        int first = placeOf(mailAt(place), 0);
        for (int ahead = place - 1; ahead >= first; ahead--) {
            if (hasPartner(ahead)) {
                return originOf(ahead);
            }
        }
        return NONE;
    }

    /** Tells whether the origin is one of the talk that was not counted before. */
    private boolean countOnce(int origin) {
        if (!isInTalk(origin) || counted[origin]) {
            return false;
        }
        counted[origin] = true;
        return true;
    }

    // ---- threads, inside

    /** The parent of a mail, if it has one with the same subject; otherwise NONE. */
    private int parentInThread(int mail) {
        int parent = parentOf(mail);
        boolean continues = parent != NONE && subjects[parent] == subjects[mail];
        return continues ? parent : NONE;
    }

    private int rootOf(int mail) {
        int root = mail;
        for (int step = 0; step < mailCount; step++) {
            int parent = parentInThread(root);
            if (parent == NONE) {
                return root;
            }
            root = parent;
        }
        return root;
    }

    private void takeRootsOfParents() {
        for (int mail = 0; mail < mailCount; mail++) {
            int parent = parentInThread(mail);
            if (parent != NONE) {
                roots[mail] = roots[parent];
            }
        }
    }

    /**
     * The lines of one mail facing those of its parent. A pair of lines is held together by one
     * number made of marks and word: what a line that quotes wants, and what a parent's line is.
     */
    private static final class Alignment {
        /** No line is of either number, and they differ, so that nothing pairs with a gap. */
        private static final int WANTS_NOTHING = -1;
        private static final int NO_LINE = -2;

        private final int[] wanted;
        private final int[] offered;
        /** most[i][j]: the most partners of the lines from i on among the parent's from j on. */
        private final int[][] most;

        Alignment() {
            wanted = new int[MAX_LINES];
            offered = new int[MAX_LINES];
            most = new int[MAX_LINES + 1][MAX_LINES + 1];
        }

        void clear() {
            for (int line = 0; line < MAX_LINES; line++) {
                wanted[line] = WANTS_NOTHING;
                offered[line] = NO_LINE;
            }
        }

        void putLine(int line, int marks, int word) {
            if (isWithin(line, 0, MAX_LINES - 1)) {
                wanted[line] = marks == 0 ? WANTS_NOTHING : markedWord(marks - 1, word);
            }
        }

        void putParentLine(int line, int marks, int word) {
            if (isWithin(line, 0, MAX_LINES - 1)) {
                offered[line] = markedWord(marks, word);
            }
        }

        private static int markedWord(int marks, int word) {
            return marks * (MAX_WORD + 1) + word;
        }

        void fillTable() {
            for (int line = MAX_LINES - 1; line >= 0; line--) {
                for (int from = MAX_LINES - 1; from >= 0; from--) {
                    int best = Math.max(most[line + 1][from], most[line][from + 1]);
                    if (wanted[line] == offered[from]) {
                        best = Math.max(best, 1 + most[line + 1][from + 1]);
                    }
                    most[line][from] = best;
                }
            }
        }

        int mostPartners() {
            return most[0][0];
        }

        /**
         * The first of the parent's lines from a number on that can be the partner of a line
         * without making the alignment smaller than it could be; NONE if there is none.
         */
        int earliestPartner(int line, int from) {
            if (!isWithin(line, 0, MAX_LINES - 1) || !isWithin(from, 0, MAX_LINES - 1)) {
                return NONE;
            }
            for (int at = from; at < MAX_LINES; at++) {
                if (wanted[line] == offered[at]
                        && 1 + most[line + 1][at + 1] == most[line][from]) {
                    return at;
                }
            }
            return NONE;
        }

        int mostPartnersByTrying() {
            return tryFrom(wanted, offered, 0, 0);
        }

        /** Goes one level deeper with each line, so at most MAX_LINES deep. */
        private static int tryFrom(int[] wanted, int[] offered, int line, int from) {
            if (line >= MAX_LINES) {
                return 0;
            }
            int best = tryFrom(wanted, offered, line + 1, from);
            for (int at = from; at < MAX_LINES; at++) {
                if (wanted[line] == offered[at]) {
                    best = Math.max(best, 1 + tryFrom(wanted, offered, line + 1, at + 1));
                }
            }
            return best;
        }
    }
}
