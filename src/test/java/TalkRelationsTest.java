import java.util.Arrays;
import java.util.HashSet;
import java.util.Set;

/** What promises 17 to 28 say first, as relations between answers. */
final class TalkRelationsTest {
    private TalkRelationsTest() {
    }

    static void run(Results results) {
        talk(results);
        threads(results);
    }

    private static void talk(Results results) {
        Relations.test(results, "promise 17 | Returns the mail of the line that a new line"
                + " answers.", "answersMail", asked -> answeredFound(asked, "originMail"));
        Relations.test(results, "promise 18 | Returns the line that a new line answers.",
                "answersLine", asked -> answeredFound(asked, "originLine"));
        Relations.test(results, "promise 19 | Returns how many new lines answer a line.",
                "answers", TalkRelationsTest::answersCounted);
        Relations.test(results, "promise 20 | Returns the number of lines of the talk, found by"
                + " their kinds.", "talk", asked -> "" + talkCounted(asked));
        Relations.test(results, "promise 21 | Returns the same number, found from the origins of"
                + " all lines.", "talkByOrigins", asked -> asked.text("talk"));
        Relations.test(results, "promise 21 | Returns the number of origins of the kinds 'n' and"
                + " 'r', each one counted once.", "talkByOrigins",
                asked -> "" + originsOfTalkCounted(asked));
        Relations.test(results, "promise 22 | Returns how often the word of a line of the talk"
                + " stands in all mails, quoted or not, with this line as the origin.", "copies",
                TalkRelationsTest::copiesCounted);
        Relations.test(results, "promise 27 | Returns the share of all lines that are in the"
                + " talk.", "newShare", TalkRelationsTest::shareCounted);
    }

    private static void threads(Results results) {
        Relations.test(results, "promise 23 | Returns the root of a mail, found from parent to"
                + " parent.", "root", TalkRelationsTest::rootsFound);
        Relations.test(results, "promise 24 | Returns the same root, found by rounds over all"
                + " mails.", "rootByRounds", asked -> asked.ofMails("root"));
        Relations.test(results, "promise 25 | Returns the number of threads.", "threads",
                asked -> "" + headsCounted(asked));
        Relations.test(results, "promise 26 | Returns the number of mails of the thread of a"
                + " mail.", "size", TalkRelationsTest::sizesCounted);
        Relations.test(results, "promise 28 | Returns the mean number of mails of a thread.",
                "meanSize", TalkRelationsTest::meanCounted);
    }

    /** Back from each new line to the first quoted one, whose origin's mail or line it is. */
    private static int[][] answeredFound(Asked asked, String partOfOrigin) {
        String[] kinds = asked.kinds();
        int[][] answered = asked.told.rows();
        for (int mail = 0; mail < answered.length; mail++) {
            for (int line = 0; line < answered[mail].length; line++) {
                int quoted = kinds[mail].lastIndexOf('q', line);
                boolean answers = kinds[mail].charAt(line) == 'n' && quoted >= 0;
                answered[mail][line] = answers ? asked.number(partOfOrigin, mail, quoted)
                        : Asked.THROWN;
            }
        }
        return answered;
    }

    private static int[][] answersCounted(Asked asked) {
        int[][] answeredMails = asked.ofLines("answersMail");
        int[][] answeredLines = asked.ofLines("answersLine");
        int[][] counts = asked.told.rows();
        for (int mail = 0; mail < counts.length; mail++) {
            for (int line = 0; line < counts[mail].length; line++) {
                if (answeredMails[mail][line] != Asked.THROWN) {
                    counts[answeredMails[mail][line]][answeredLines[mail][line]]++;
                }
            }
        }
        return counts;
    }

    private static int talkCounted(Asked asked) {
        String all = String.join("", asked.kinds());
        return all.replaceAll("[^nr]", "").length();
    }

    private static int originsOfTalkCounted(Asked asked) {
        String[] kinds = asked.kinds();
        int[][] mails = asked.ofLines("originMail");
        int[][] lines = asked.ofLines("originLine");
        Set<String> origins = new HashSet<>();
        for (int mail = 0; mail < mails.length; mail++) {
            for (int line = 0; line < mails[mail].length; line++) {
                int originMail = mails[mail][line];
                int originLine = lines[mail][line];
                if ("nr".indexOf(kinds[originMail].charAt(originLine)) >= 0) {
                    origins.add(originMail + " " + originLine);
                }
            }
        }
        return origins.size();
    }

    /** Only a line with the word of its origin counts, which each line has. */
    private static int[][] copiesCounted(Asked asked) {
        String[] kinds = asked.kinds();
        int[][] mails = asked.ofLines("originMail");
        int[][] lines = asked.ofLines("originLine");
        int[][] counts = asked.told.rows();
        for (int mail = 0; mail < mails.length; mail++) {
            for (int line = 0; line < mails[mail].length; line++) {
                Told.Line origin = asked.told.mails.get(mails[mail][line]).lines
                        .get(lines[mail][line]);
                if (asked.told.mails.get(mail).lines.get(line).word == origin.word) {
                    counts[mails[mail][line]][lines[mail][line]]++;
                }
            }
        }
        for (int mail = 0; mail < mails.length; mail++) {
            for (int line = 0; line < mails[mail].length; line++) {
                boolean isInTalk = "nr".indexOf(kinds[mail].charAt(line)) >= 0;
                counts[mail][line] = isInTalk ? counts[mail][line] : Asked.THROWN;
            }
        }
        return counts;
    }

    private static String shareCounted(Asked asked) {
        int lineCount = asked.told.lineCount();
        return lineCount == 0 ? "throws.ArithmeticException"
                : "" + (float) talkCounted(asked) / (float) lineCount;
    }

    private static int[] rootsFound(Asked asked) {
        int[] parents = asked.ofMails("parent");
        int[] roots = new int[parents.length];
        for (int mail = 0; mail < roots.length; mail++) {
            int root = mail;
            while (parents[root] != Asked.THROWN && asked.told.mails.get(parents[root]).subject
                    == asked.told.mails.get(root).subject) {
                root = parents[root];
            }
            roots[mail] = root;
        }
        return roots;
    }

    private static int headsCounted(Asked asked) {
        Set<Integer> heads = new HashSet<>();
        for (int root : asked.ofMails("root")) {
            heads.add(root);
        }
        return heads.size();
    }

    private static int[] sizesCounted(Asked asked) {
        int[] roots = asked.ofMails("root");
        int[] counts = new int[roots.length];
        for (int mail = 0; mail < counts.length; mail++) {
            int root = roots[mail];
            counts[mail] = (int) Arrays.stream(roots).filter(each -> each == root).count();
        }
        return counts;
    }

    private static String meanCounted(Asked asked) {
        int mailCount = asked.told.mails.size();
        return mailCount == 0 ? "throws.ArithmeticException"
                : "" + (double) mailCount / (double) headsCounted(asked);
    }
}
