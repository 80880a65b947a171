import java.util.ArrayList;
import java.util.List;
import java.util.Map;
import java.util.Random;
import java.util.TreeMap;

/**
 * Chance runs, the same ones every time, on SharedLog and on Model. With an argument it tells how
 * often each call answered and threw what.
 */
public final class ModelTest {
    /** An object is made for so many calls. */
    private static final int MOST_CALLS = 512;
    /** To look at all that can be seen takes so many calls. */
    private static final int CALLS_TO_LOOK = 6 * 60 + 4 * 9 + 4 * 4 + 10 + 4;
    private static final int[] ROWS = {
        1, 2, 3, 4, 5, 6, 12, 21, 34, 43, 56, 15, 35, 123, 456, 516, 231, 0, 7, 11, 121, 1234};
    /** The calls that do something come more often than those that only tell. */
    private static final String[] NAMES = {
        "append", "append", "append", "append", "read", "fill", "fill", "trim", "learn", "learn", "change",
        "up", "up", "lose", "sync", "sync", "sync", "get", "begin", "begin", "see", "see", "put", "put", "put",
        "commit", "commit", "commit", "drop", "look", "client", "count"};

    private final Random chance;
    private final SharedLog log = new SharedLog();
    private final Model model = new Model();
    private final List<String> told = new ArrayList<>();
    private final int rareness;

    private ModelTest(int seed) {
        chance = new Random(seed);
        rareness = 1 + seed % 8;
    }

    public static void main(String[] args) {
        Map<String, Integer> answers = new TreeMap<>();
        for (int seed = 0; seed < 6000; seed++) {
            new ModelTest(seed).play(160, answers);
        }
        for (int seed = 6000; seed < 6400; seed++) {
            new ModelTest(seed).play(MOST_CALLS, answers);
        }
        for (int seed = 6400; seed < 8000; seed++) {
            ModelTest run = new ModelTest(seed);
            run.play(MOST_CALLS - CALLS_TO_LOOK, answers);
            run.lookAtAll();
        }
        if (args.length > 0) {
            answers.forEach((what, times) -> System.out.println(what + ": " + times));
        }
    }

    private void play(int calls, Map<String, Integer> answers) {
        for (int i = 0; i < calls; i++) {
            String name = nextName();
            String due = compare(name, arguments(name));
            answers.merge(name + (due.startsWith("= ") && !name.equals("commit") ? "" : " " + due), 1, Integer::sum);
        }
    }

    private String nextName() {
        String name = NAMES[chance.nextInt(NAMES.length)];
        boolean skip = isRare(name) && chance.nextInt(rareness) > 0
            || name.equals("lose") && chance.nextInt(4) > 0;
        return skip ? "sync" : name;
    }

    /** Answers what is due; a run ends at the first answer that is another. */
    private String compare(String name, int... a) {
        String due = due(name, a);
        String call = text(name, a);
        String got = Script.answer(log, call);
        told.add(call + " " + got);
        if (!got.equals(due)) {
            told.add("due is " + due);
            System.out.println("a run: " + String.join("\n", told));
            System.exit(1);
        }
        return due;
    }

    /** Drop comes last, since it does something. */
    private void lookAtAll() {
        compareEach("look", 6, 60);
        compareEach("client", 4, 9);
        compareEach("get", 4, 4);
        for (int what = 0; what < 10; what++) {
            compare("count", what);
        }
        for (int client = 0; client < 4; client++) {
            compare("drop", client);
        }
    }

    private void compareEach(String name, int first, int second) {
        for (int i = 0; i < first; i++) {
            for (int j = 0; j < second; j++) {
                compare(name, i, j);
            }
        }
    }

    /** These make a log useless for long, so most runs see few of them. */
    private static boolean isRare(String name) {
        return name.equals("change") || name.equals("up") || name.equals("lose") || name.equals("trim");
    }

    private String due(String name, int[] a) {
        try {
            int answer = model.call(name, a);
            return name.equals("commit") ? "= " + (answer == 1) : "= " + answer;
        } catch (RuntimeException e) {
            return "throws " + e.getClass().getSimpleName();
        }
    }

    private int[] arguments(String name) {
        int client = number(4);
        switch (name) {
            case "append": return new int[] {client, number(4), chance.nextInt(), most()};
            case "read", "fill": return new int[] {client, offset()};
            case "trim": return new int[] {client, chance.nextInt(3) > 0 ? number(4) : offset()};
            case "look": return new int[] {number(6), offset()};
            case "change": return new int[] {client, number(2), ROWS[chance.nextInt(ROWS.length)]};
            case "up": return new int[] {number(6), chance.nextInt(3) > 0 ? 1 : 0};
            case "lose": return new int[0];
            case "get", "see": return new int[] {client, number(4)};
            case "put": return new int[] {client, number(4), chance.nextInt(5)};
            case "client": return new int[] {client, number(9)};
            case "count": return new int[] {number(10)};
            default: return new int[] {client};
        }
    }

    /** Mostly about the end of the log, where holes are. */
    private int offset() {
        if (chance.nextBoolean()) {
            return number(60);
        }
        int next = model.call("count", new int[] {2});
        return Math.max(0, Math.min(59, next - chance.nextInt(4)));
    }

    private int most() {
        return chance.nextInt(3) > 0 ? 3 : number(4);
    }

    private int number(int limit) {
        return chance.nextInt(60) == 0 ? (chance.nextBoolean() ? -1 : limit) : chance.nextInt(limit);
    }

    private static String text(String name, int[] a) {
        List<String> texts = new ArrayList<>();
        for (int i = 0; i < a.length; i++) {
            texts.add(name.equals("up") && i == 1 ? String.valueOf(a[i] == 1) : String.valueOf(a[i]));
        }
        return name + "(" + String.join(", ", texts) + ")";
    }
}
