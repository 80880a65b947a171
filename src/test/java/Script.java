import java.lang.reflect.InvocationTargetException;
import java.lang.reflect.Method;
import java.util.ArrayList;
import java.util.List;

/**
 * Runs rows of calls on one new SharedLog each. A row is a call as in Java, followed by
 * "= answer", by "throws ExceptionName", or by nothing, when it only must not throw.
 */
final class Script {
    /** An object is made for so many calls. */
    private static final int MOST_CALLS = 512;

    private static int rows = 0;
    private static int wrong = 0;

    private Script() {
    }

    static SharedLog run(String title, String text) {
        SharedLog log = new SharedLog();
        requireFew(title, text.lines().count());
        for (String line : text.split("\n")) {
            if (!line.isBlank()) {
                check(log, title, line.strip());
            }
        }
        return log;
    }

    private static void requireFew(String title, long calls) {
        if (calls > MOST_CALLS) {
            throw new IllegalStateException(title + ": more calls than an object is made for");
        }
    }

    /** Calls that each have a number out of range, on one object, after the rows that prepare it. */
    static void refuse(String title, String prepare, String... calls) {
        StringBuilder text = new StringBuilder(prepare).append('\n');
        for (String call : calls) {
            text.append(call).append(" throws IllegalArgumentException\n");
        }
        run(title, text.toString());
    }

    /**
     * Runs two texts of rows on an object each, and compares all that can be seen of both then: so
     * it is told that a refused call does nothing, or what a call did before it threw something.
     */
    static void same(String title, String text, String other) {
        List<String> seen = picture(run(title, text));
        List<String> due = picture(run(title, other));
        requireFew(title, due.size() + Math.max(text.lines().count(), other.lines().count()));
        for (int i = 0; i < due.size(); i++) {
            if (!seen.get(i).equals(due.get(i))) {
                wrong++;
                System.out.println(title + ": afterwards " + seen.get(i) + ", due is " + due.get(i));
            }
        }
    }

    /** Answers to all calls that only tell, and to drop, which comes last since it does something. */
    private static List<String> picture(SharedLog log) {
        List<String> calls = new ArrayList<>();
        numbered(calls, "look(%d, %d)", 6, 60);
        numbered(calls, "client(%d, %d)", 4, 9);
        numbered(calls, "get(%d, %d)", 4, 4);
        numbered(calls, "count(%2$d)", 1, 10);
        numbered(calls, "drop(%d)", 4, 1);
        calls.replaceAll(call -> call + " " + answer(log, call));
        return calls;
    }

    private static void numbered(List<String> calls, String form, int first, int second) {
        for (int i = 0; i < first; i++) {
            for (int j = 0; j < second; j++) {
                calls.add(String.format(form, i, j));
            }
        }
    }

    /** A call that may do or throw anything but this exception, after the rows that prepare it. */
    static void mustNot(String title, String exception, String prepare, String call) {
        String got = answer(run(title, prepare), call);
        rows++;
        if (got.equals("throws " + exception)) {
            wrong++;
            System.out.println(title + ": " + call + " " + got);
        }
    }

    static void end() {
        if (rows == 0) {
            System.out.println("no row was run");
        }
        System.exit(wrong == 0 && rows > 0 ? 0 : 1);
    }

    private static void check(SharedLog log, String title, String row) {
        int close = row.indexOf(')') + 1;
        String call = row.substring(0, close);
        String due = row.substring(close).strip();
        String got = answer(log, call);
        boolean right = due.isEmpty() ? !got.startsWith("throws") : got.equals(due);
        rows++;
        if (!right) {
            wrong++;
            System.out.println(title + ": " + call + " " + got + ", due is " + due);
        }
    }

    /** What a call answers, in the form in which a row tells it. */
    static String answer(SharedLog log, String call) {
        int open = call.indexOf('(');
        String inside = call.substring(open + 1, call.length() - 1).strip();
        Method method = methodNamed(call.substring(0, open));
        Object[] arguments = arguments(method, inside);
        try {
            return "= " + method.invoke(log, arguments);
        } catch (InvocationTargetException e) {
            return "throws " + e.getCause().getClass().getSimpleName();
        } catch (IllegalAccessException e) {
            throw new IllegalStateException(call, e);
        }
    }

    private static Method methodNamed(String name) {
        for (Method method : SharedLog.class.getMethods()) {
            if (method.getName().equals(name)) {
                return method;
            }
        }
        throw new IllegalStateException("no method " + name);
    }

    private static Object[] arguments(Method method, String inside) {
        String[] texts = inside.isEmpty() ? new String[0] : inside.split(",");
        Class<?>[] types = method.getParameterTypes();
        if (texts.length != types.length) {
            throw new IllegalStateException(method.getName() + "(" + inside + ")");
        }
        Object[] arguments = new Object[texts.length];
        for (int i = 0; i < texts.length; i++) {
            String text = texts[i].strip();
            if (types[i] == boolean.class) {
                arguments[i] = Boolean.valueOf(text);
            } else {
                arguments[i] = Integer.valueOf(text);
            }
        }
        return arguments;
    }
}
