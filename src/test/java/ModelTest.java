import java.util.ArrayList;
import java.util.List;
import java.util.Map;
import java.util.Random;
import java.util.TreeMap;

/**
 * Chance runs, the same ones every time, on SharedLog and on Model. With an argument it tells how
 * often each call answered and threw what.
 */
public final class ModelTest {
    private static final int RUNS = 6000;
    private static final int CALLS = 160;
    private static final int[] ROWS = {
        1, 2, 3, 4, 5, 6, 12, 21, 34, 43, 56, 15, 35, 123, 456, 516, 231, 0, 7, 11, 121, 1234};
    /** The calls that do something come more often than those that only tell. */
    private static final String[] NAMES = {
        "append", "append", "append", "append", "read", "fill", "fill", "trim", "learn", "learn", "change",
        "up", "up", "lose", "sync", "sync", "sync", "get", "begin", "begin", "see", "see", "put", "put", "put",
        "commit", "commit", "commit", "drop", "look", "client", "count"};

    private final Random chance;
    private final SharedLog log = new SharedLog();
    private final Model model = new Model();
    private final List<String> told = new ArrayList<>();
    private final int rareness;

    private ModelTest(int seed) {
        chance = new Random(seed);
        rareness = 1 + seed % 8;
    }

    public static void main(String[] args) {
        Map<String, Integer> answers = new TreeMap<>();
        for (int seed = 0; seed < RUNS; seed++) {
            ModelTest run = new ModelTest(seed);
            for (int i = 0; i < CALLS; i++) {
                if (!run.step(answers)) {
                    System.out.println("run " + seed + ": " + String.join("\n", run.told));
                    System.exit(1);
                }
            }
        }
        if (args.length > 0) {
            answers.forEach((what, times) -> System.out.println(what + ": " + times));
        }
    }

    private boolean step(Map<String, Integer> answers) {
        String name = NAMES[chance.nextInt(NAMES.length)];
        if (isRare(name) && chance.nextInt(rareness) > 0 || name.equals("lose") && chance.nextInt(4) > 0) {
            name = "sync";
        }
        int[] a = arguments(name);
        String due = due(name, a);
        String call = text(name, a);
        String got = Script.answer(log, call);
        told.add(call + " " + got);
        answers.merge(name + (due.startsWith("= ") && !name.equals("commit") ? "" : " " + due), 1, Integer::sum);
        if (!got.equals(due)) {
            told.add("due is " + due);
        }
        return got.equals(due);
    }

    /** These make a log useless for long, so most runs see few of them. */
    private static boolean isRare(String name) {
        return name.equals("change") || name.equals("up") || name.equals("lose") || name.equals("trim");
    }

    private String due(String name, int[] a) {
        try {
            int answer = model.call(name, a);
            return name.equals("commit") ? "= " + (answer == 1) : "= " + answer;
        } catch (RuntimeException e) {
            return "throws " + e.getClass().getSimpleName();
        }
    }

    private int[] arguments(String name) {
        int client = number(4);
        switch (name) {
            case "append": return new int[] {client, number(4), chance.nextInt(), most()};
            case "read", "fill": return new int[] {client, offset()};
            case "trim": return new int[] {client, chance.nextInt(3) > 0 ? number(4) : offset()};
            case "look": return new int[] {number(6), offset()};
            case "change": return new int[] {client, number(2), ROWS[chance.nextInt(ROWS.length)]};
            case "up": return new int[] {number(6), chance.nextInt(3) > 0 ? 1 : 0};
            case "lose": return new int[0];
            case "get", "see": return new int[] {client, number(4)};
            case "put": return new int[] {client, number(4), chance.nextInt(5)};
            case "client": return new int[] {client, number(9)};
            case "count": return new int[] {number(10)};
            default: return new int[] {client};
        }
    }

    /** Mostly about the end of the log, where holes are. */
    private int offset() {
        if (chance.nextBoolean()) {
            return number(60);
        }
        int next = model.call("count", new int[] {2});
        return Math.max(0, Math.min(59, next - chance.nextInt(4)));
    }

    private int most() {
        return chance.nextInt(3) > 0 ? 3 : number(4);
    }

    private int number(int limit) {
        return chance.nextInt(60) == 0 ? (chance.nextBoolean() ? -1 : limit) : chance.nextInt(limit);
    }

    private static String text(String name, int[] a) {
        List<String> texts = new ArrayList<>();
        for (int i = 0; i < a.length; i++) {
            texts.add(name.equals("up") && i == 1 ? String.valueOf(a[i] == 1) : String.valueOf(a[i]));
        }
        return name + "(" + String.join(", ", texts) + ")";
    }
}
