import java.lang.reflect.InvocationTargetException;
import java.lang.reflect.Method;

/**
 * Runs rows of calls on one new SharedLog each. A row is a call as in Java, followed by
 * "= answer", by "throws ExceptionName", or by nothing, when it only must not throw.
 */
final class Script {
    private static int rows = 0;
    private static int wrong = 0;

    private Script() {
    }

    static void run(String title, String text) {
        SharedLog log = new SharedLog();
        for (String line : text.split("\n")) {
            if (!line.isBlank()) {
                check(log, title, line.strip());
            }
        }
    }

    /** Calls that each have a number out of range, on one object, after the rows that prepare it. */
    static void refuse(String title, String prepare, String... calls) {
        StringBuilder text = new StringBuilder(prepare).append('\n');
        for (String call : calls) {
            text.append(call).append(" throws IllegalArgumentException\n");
        }
        run(title, text.toString());
    }

    static void end() {
        if (rows == 0) {
            System.out.println("no row was run");
        }
        System.exit(wrong == 0 && rows > 0 ? 0 : 1);
    }

    private static void check(SharedLog log, String title, String row) {
        int close = row.indexOf(')') + 1;
        String call = row.substring(0, close);
        String due = row.substring(close).strip();
        String got = answer(log, call);
        boolean right = due.isEmpty() ? !got.startsWith("throws") : got.equals(due);
        rows++;
        if (!right) {
            wrong++;
            System.out.println(title + ": " + call + " " + got + ", due is " + due);
        }
    }

    /** What a call answers, in the form in which a row tells it. */
    static String answer(SharedLog log, String call) {
        int open = call.indexOf('(');
        String inside = call.substring(open + 1, call.length() - 1).strip();
        Method method = methodNamed(call.substring(0, open));
        Object[] arguments = arguments(method, inside);
        try {
            return "= " + method.invoke(log, arguments);
        } catch (InvocationTargetException e) {
            return "throws " + e.getCause().getClass().getSimpleName();
        } catch (IllegalAccessException e) {
            throw new IllegalStateException(call, e);
        }
    }

    private static Method methodNamed(String name) {
        for (Method method : SharedLog.class.getMethods()) {
            if (method.getName().equals(name)) {
                return method;
            }
        }
        throw new IllegalStateException("no method " + name);
    }

    private static Object[] arguments(Method method, String inside) {
        String[] texts = inside.isEmpty() ? new String[0] : inside.split(",");
        Class<?>[] types = method.getParameterTypes();
        if (texts.length != types.length) {
            throw new IllegalStateException(method.getName() + "(" + inside + ")");
        }
        Object[] arguments = new Object[texts.length];
        for (int i = 0; i < texts.length; i++) {
            String text = texts[i].strip();
            if (types[i] == boolean.class) {
                arguments[i] = Boolean.valueOf(text);
            } else {
                arguments[i] = Integer.valueOf(text);
            }
        }
        return arguments;
    }
}
