import java.lang.reflect.InvocationTargetException;
import java.lang.reflect.Method;

/**
 * Makes calls that are written as text, such as "addLine(0, 1, 5)", on any object that has the
 * methods. The answer is a text too: the value, or "throws." with the name of the exception.
 */
final class Calls {
    private Calls() {
    }

    static String answer(Object reader, String call) {
        int open = call.indexOf('(');
        String name = call.substring(0, open);
        String inside = call.substring(open + 1, call.lastIndexOf(')')).trim();
        String[] parts = inside.isEmpty() ? new String[0] : inside.split(",");
        int[] arguments = new int[parts.length];
        for (int i = 0; i < parts.length; i++) {
            arguments[i] = Integer.parseInt(parts[i].trim());
        }
        return answerTo(reader, name, arguments);
    }

    private static String answerTo(Object reader, String name, int... arguments) {
        Class<?>[] types = new Class<?>[arguments.length];
        Object[] values = new Object[arguments.length];
        for (int i = 0; i < arguments.length; i++) {
            types[i] = int.class;
            values[i] = arguments[i];
        }
        try {
            Method method = reader.getClass().getDeclaredMethod(name, types);
            return String.valueOf(method.invoke(reader, values));
        } catch (InvocationTargetException thrown) {
            return "throws." + thrown.getCause().getClass().getSimpleName();
        } catch (ReflectiveOperationException unfit) {
            throw new IllegalArgumentException("no such call: " + name, unfit);
        }
    }

    static boolean isChange(String call) {
        return call.startsWith("arrive(") || call.startsWith("addLine(")
                || call.startsWith("removeLine(");
    }
}
