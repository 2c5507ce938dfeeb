import java.lang.reflect.InvocationTargetException;

/**
 * Makes calls that are written as text, such as "addLine(0, 1, 5)", on any object that has the
 * methods. The answer is a text too: the value, or "throws." with the name of the exception.
 */
final class Calls {
    /** An object is promised to answer so many calls. */
    static final int MOST = 512;
    /** The calls that only ask: of the whole box, of a mail, and of a line. */
    static final String[] ASK_ALL = {
        "mails", "missing", "talk", "talkByOrigins", "threads", "newShare", "meanSize",
    };
    static final String[] ASK_MAIL = {
        "lines", "parent", "aligned", "alignedByTrying", "signature", "root", "rootByRounds",
        "size",
    };
    static final String[] ASK_LINE = {
        "word", "partner", "originMail", "originLine", "kind", "answersMail", "answersLine",
        "answers", "copies",
    };

    private Calls() {
    }

    static String answer(Object reader, String call) {
        return answerTo(reader, nameOf(call), argumentsOf(call));
    }

    static String nameOf(String call) {
        return call.substring(0, call.indexOf('('));
    }

    static int[] argumentsOf(String call) {
        String inside = call.substring(call.indexOf('(') + 1, call.lastIndexOf(')')).trim();
        String[] parts = inside.isEmpty() ? new String[0] : inside.split(",");
        int[] arguments = new int[parts.length];
        for (int i = 0; i < parts.length; i++) {
            arguments[i] = Integer.parseInt(parts[i].trim());
        }
        return arguments;
    }

    static String answerTo(Object reader, String name, int... arguments) {
        try {
            return String.valueOf(invoke(reader, name, arguments));
        } catch (InvocationTargetException thrown) {
            return "throws." + thrown.getCause().getClass().getSimpleName();
        }
    }

    /** What a call throws; null if it answers. */
    static Throwable thrownBy(Object reader, String name, int... arguments) {
        try {
            invoke(reader, name, arguments);
            return null;
        } catch (InvocationTargetException thrown) {
            return thrown.getCause();
        }
    }

    private static Object invoke(Object reader, String name, int... arguments)
            throws InvocationTargetException {
        Class<?>[] types = new Class<?>[arguments.length];
        Object[] values = new Object[arguments.length];
        for (int i = 0; i < arguments.length; i++) {
            types[i] = int.class;
            values[i] = arguments[i];
        }
        try {
            return reader.getClass().getDeclaredMethod(name, types).invoke(reader, values);
        } catch (NoSuchMethodException | IllegalAccessException unfit) {
            throw new IllegalArgumentException("no such call: " + name, unfit);
        }
    }

    static boolean isChange(String call) {
        return call.startsWith("arrive(") || call.startsWith("addLine(")
                || call.startsWith("removeLine(");
    }
}
