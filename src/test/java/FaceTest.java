import java.lang.reflect.Constructor;
import java.lang.reflect.Field;
import java.lang.reflect.Method;
import java.lang.reflect.Modifier;
import java.util.ArrayList;
import java.util.Arrays;
import java.util.HashSet;
import java.util.List;
import java.util.Set;
import java.util.TreeSet;
import java.util.regex.Matcher;
import java.util.regex.Pattern;

/** The face: the members of the document, what they declare to throw, and no other members. */
final class FaceTest {
    private static final String[] FACE = {
        "int arrive(int, int, int, int) throws IllegalArgumentException, IllegalStateException",
        "int addLine(int, int, int) throws IndexOutOfBoundsException, IllegalArgumentException,"
                + " IllegalStateException",
        "int removeLine(int) throws IndexOutOfBoundsException, IllegalStateException",
        "int mails()",
        "int lines(int) throws IndexOutOfBoundsException",
        "int word(int, int) throws IndexOutOfBoundsException",
        "int parent(int) throws IndexOutOfBoundsException, NoSuchElementException",
        "int missing()",
        "int aligned(int) throws IndexOutOfBoundsException",
        "int alignedByTrying(int) throws IndexOutOfBoundsException",
        "int partner(int, int) throws IndexOutOfBoundsException, NoSuchElementException",
        "int originMail(int, int) throws IndexOutOfBoundsException",
        "int originLine(int, int) throws IndexOutOfBoundsException",
        "char kind(int, int) throws IndexOutOfBoundsException",
        "int signature(int) throws IndexOutOfBoundsException",
        "int answersMail(int, int) throws IndexOutOfBoundsException,"
                + " UnsupportedOperationException, NoSuchElementException",
        "int answersLine(int, int) throws IndexOutOfBoundsException,"
                + " UnsupportedOperationException, NoSuchElementException",
        "int answers(int, int) throws IndexOutOfBoundsException",
        "int talk()",
        "int talkByOrigins()",
        "int copies(int, int) throws IndexOutOfBoundsException, UnsupportedOperationException",
        "int root(int) throws IndexOutOfBoundsException",
        "int rootByRounds(int) throws IndexOutOfBoundsException",
        "int threads()",
        "int size(int) throws IndexOutOfBoundsException",
        "float newShare() throws ArithmeticException",
        "double meanSize() throws ArithmeticException",
    };

    /** The face's calls in their order, with what the interface says ahead of them. */
    private static final String[] INTERFACE = {
        "TalkRebuilder",
        "---- mails", "arrive", "addLine", "removeLine", "mails", "lines", "word", "parent",
        "missing",
        "---- quoting", "aligned", "alignedByTrying", "partner", "originMail", "originLine",
        "kind", "signature",
        "---- talk", "answersMail", "answersLine", "answers", "talk", "talkByOrigins", "copies",
        "---- threads", "root", "rootByRounds", "threads", "size", "newShare", "meanSize",
    };
    private static final Pattern SAID = Pattern.compile(
            "^    (?:// (---- .*)|public (?:\\w+ )?(\\w+)\\(.*)$");

    private FaceTest() {
    }

    static void run(Results results) {
        results.record("the face: methods", differences());
        results.record("the face: class and constructor", classFaults());
        results.record("the face: all else is private", memberFaults());
        results.record("the face: classes inside are private and static", nestedFaults());
        results.record("terms | Ahead of the calls .. the interface says: ---- mails, ---- quoting,"
                + " ---- talk, ---- threads", interfaceFaults());
    }

    private static String nestedFaults() {
        StringBuilder faults = new StringBuilder();
        for (Class<?> inside : TalkRebuilder.class.getDeclaredClasses()) {
            int modifiers = inside.getModifiers();
            if (!Modifier.isPrivate(modifiers) || !Modifier.isStatic(modifiers)) {
                faults.append("  not private and static: ").append(inside).append('\n');
            }
        }
        return faults.toString();
    }

    private static String interfaceFaults() {
        List<String> got = new ArrayList<>();
        for (String line : Texts.read(Texts.PROGRAM).split("\n")) {
            Matcher said = SAID.matcher(line);
            if (said.matches() && got.size() < INTERFACE.length) {
                got.add(said.group(1) == null ? said.group(2) : said.group(1));
            }
        }
        List<String> due = Arrays.asList(INTERFACE);
        return got.equals(due) ? "" : "  got " + got + "\n  due " + due;
    }

    private static String differences() {
        Set<String> got = new TreeSet<>();
        for (Method method : TalkRebuilder.class.getDeclaredMethods()) {
            if (Modifier.isPublic(method.getModifiers())) {
                got.add(text(method));
            }
        }
        Set<String> due = new TreeSet<>(Arrays.asList(FACE));
        return got.equals(due) ? "" : "  got " + got + "\n  due " + due;
    }

    private static String text(Method method) {
        String thrown = names(method.getExceptionTypes());
        return method.getReturnType().getSimpleName() + " " + method.getName()
                + "(" + names(method.getParameterTypes()) + ")"
                + (thrown.isEmpty() ? "" : " throws " + thrown);
    }

    private static String names(Class<?>[] types) {
        StringBuilder names = new StringBuilder();
        for (Class<?> type : types) {
            names.append(names.length() == 0 ? "" : ", ").append(type.getSimpleName());
        }
        return names.toString();
    }

    private static String classFaults() {
        int modifiers = TalkRebuilder.class.getModifiers();
        Constructor<?>[] constructors = TalkRebuilder.class.getDeclaredConstructors();
        boolean fits = Modifier.isPublic(modifiers) && Modifier.isFinal(modifiers)
                && constructors.length == 1 && constructors[0].getParameterCount() == 0
                && Modifier.isPublic(constructors[0].getModifiers());
        return fits ? "" : "  it is not a public final class with one public constructor";
    }

    private static String memberFaults() {
        StringBuilder faults = new StringBuilder();
        for (Field field : TalkRebuilder.class.getDeclaredFields()) {
            if (!Modifier.isPrivate(field.getModifiers())) {
                faults.append("  not private: ").append(field).append('\n');
            }
        }
        Set<String> publicNames = new HashSet<>();
        for (String each : FACE) {
            publicNames.add(each.substring(each.indexOf(' ') + 1, each.indexOf('(')));
        }
        for (Method method : TalkRebuilder.class.getDeclaredMethods()) {
            int modifiers = method.getModifiers();
            boolean isFace = Modifier.isPublic(modifiers);
            boolean fits = isFace || Modifier.isPrivate(modifiers)
                    && !publicNames.contains(method.getName());
            if (!fits) {
                faults.append("  not private, or named as a public one: ").append(method)
                        .append('\n');
            }
        }
        return faults.toString();
    }
}
