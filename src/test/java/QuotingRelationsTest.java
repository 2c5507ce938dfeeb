import java.util.ArrayList;
import java.util.Arrays;
import java.util.HashSet;
import java.util.List;
import java.util.Set;

/** What promises 6 to 16 say first, as relations between answers. */
final class QuotingRelationsTest {
    private QuotingRelationsTest() {
    }

    static void run(Results results) {
        Relations.test(results, "promise 6 | Returns the number of lines of a mail.", "lines",
                asked -> linesTold(asked.told));
        Relations.test(results, "promise 7 | Returns the word of a line.", "word",
                asked -> wordsTold(asked.told));
        Relations.test(results, "promise 8 | Returns the parent of a mail.", "parent",
                asked -> parentsTold(asked.told));
        Relations.test(results, "promise 9 | Returns the number of dates of missing mails that"
                + " are answered.", "missing", asked -> "" + datesMissing(asked.told).size());
        Relations.test(results, "promise 10 | Returns the number of lines of a mail that have"
                + " partners, found by a table.", "aligned",
                QuotingRelationsTest::partnersCounted);
        Relations.test(results, "promise 11 | Returns the same number, found by trying all"
                + " alignments.", "alignedByTrying", asked -> asked.ofMails("aligned"));
        Relations.test(results, "promise 12 | Returns the partner of a line.", "partner",
                QuotingRelationsTest::partnersThatFit);
        Relations.test(results, "promise 13 | Returns the mail of the origin of a line.",
                "originMail", asked -> originsFound(asked, 0));
        Relations.test(results, "promise 14 | Returns the line that is the origin of a line.",
                "originLine", asked -> originsFound(asked, 1));
        Relations.test(results, "promise 15 | Returns the kind of a line.", "kind",
                QuotingRelationsTest::kindsFound);
        Relations.test(results, "promise 16 | Returns the number of lines of the signature of a"
                + " mail.", "signature", QuotingRelationsTest::signaturesCounted);
    }

    private static int[] linesTold(Told told) {
        int[] counts = new int[told.mails.size()];
        for (int mail = 0; mail < counts.length; mail++) {
            counts[mail] = told.mails.get(mail).lines.size();
        }
        return counts;
    }

    private static int[][] wordsTold(Told told) {
        int[][] words = told.rows();
        for (int mail = 0; mail < words.length; mail++) {
            for (int line = 0; line < words[mail].length; line++) {
                words[mail][line] = told.mails.get(mail).lines.get(line).word;
            }
        }
        return words;
    }

    private static int[] parentsTold(Told told) {
        int[] parents = new int[told.mails.size()];
        Arrays.fill(parents, Asked.THROWN);
        for (int mail = 0; mail < parents.length; mail++) {
            for (int other = 0; other < parents.length; other++) {
                if (told.mails.get(other).date == told.mails.get(mail).answered) {
                    parents[mail] = other;
                }
            }
        }
        return parents;
    }

    private static Set<Integer> datesMissing(Told told) {
        Set<Integer> dates = new HashSet<>();
        for (Told.Mail mail : told.mails) {
            if (told.answersMissing(mail)) {
                dates.add(mail.answered);
            }
        }
        return dates;
    }

    private static int[] partnersCounted(Asked asked) {
        int[][] partners = asked.ofLines("partner");
        int[] counts = new int[partners.length];
        for (int mail = 0; mail < counts.length; mail++) {
            for (int partner : partners[mail]) {
                counts[mail] += partner == Asked.THROWN ? 0 : 1;
            }
        }
        return counts;
    }

    /** The partners that may be, each one behind that of the line before that has one. */
    private static int[][] partnersThatFit(Asked asked) {
        int[] parents = asked.ofMails("parent");
        int[][] partners = asked.ofLines("partner");
        for (int mail = 0; mail < partners.length; mail++) {
            int last = -1;
            for (int line = 0; line < partners[mail].length; line++) {
                int partner = partners[mail][line];
                if (partner > last && asked.told.canPair(mail, line, parents[mail], partner)) {
                    last = partner;
                } else {
                    partners[mail][line] = Asked.THROWN;
                }
            }
        }
        return partners;
    }

    /** From partner to partner; the part is 0 for the mail of the origin, 1 for the line. */
    private static int[][] originsFound(Asked asked, int part) {
        int[] parents = asked.ofMails("parent");
        int[][] partners = asked.ofLines("partner");
        int[][] origins = asked.told.rows();
        for (int mail = 0; mail < origins.length; mail++) {
            for (int line = 0; line < origins[mail].length; line++) {
                int[] at = {mail, line};
                while (partners[at[0]][at[1]] != Asked.THROWN) {
                    at = new int[] {parents[at[0]], partners[at[0]][at[1]]};
                }
                origins[mail][line] = at[part];
            }
        }
        return origins;
    }

    private static String[] kindsFound(Asked asked) {
        int[] signatures = asked.ofMails("signature");
        int[][] partners = asked.ofLines("partner");
        String[] kinds = new String[signatures.length];
        for (int mail = 0; mail < kinds.length; mail++) {
            StringBuilder text = new StringBuilder();
            List<Told.Line> lines = asked.told.mails.get(mail).lines;
            for (int line = 0; line < lines.size(); line++) {
                if (lines.get(line).marks == 0) {
                    text.append(line >= lines.size() - signatures[mail] ? 's' : 'n');
                } else if (partners[mail][line] != Asked.THROWN) {
                    text.append('q');
                } else {
                    text.append(kindWithoutPartner(asked.told, mail, line));
                }
            }
            kinds[mail] = text.toString();
        }
        return kinds;
    }

    private static char kindWithoutPartner(Told told, int mail, int line) {
        Told.Mail of = told.mails.get(mail);
        if (of.lines.get(line).marks > 1 || !told.answersMissing(of)) {
            return 'x';
        }
        List<Told.Line> earlier = new ArrayList<>(of.lines.subList(0, line));
        for (Told.Mail other : told.mails) {
            if (other.answered == of.answered && other.date < of.date) {
                earlier.addAll(other.lines);
            }
        }
        for (Told.Line each : earlier) {
            if (each.marks == 1 && each.word == of.lines.get(line).word) {
                return 'd';
            }
        }
        return 'r';
    }

    private static int[] signaturesCounted(Asked asked) {
        String[] kinds = asked.kinds();
        int[] counts = new int[kinds.length];
        for (int mail = 0; mail < counts.length; mail++) {
            counts[mail] = kinds[mail].length() - kinds[mail].replace("s", "").length();
        }
        return counts;
    }
}
