/** Promise 17: look. */
public final class LookTest {
    public static void main(String[] args) {
        Script.run("each kind, without using the unit", """
            append(0, 0, 5, 3) = 0
            begin(0) = 0
            put(0, 0, 1) = 1
            commit(0) = true
            fill(0, 2) = 2
            look(0, 0) = 1
            look(2, 1) = 2
            look(3, 1) = 2
            look(1, 2) = 3
            look(1, 4) = 0
            up(0, false) = 0
            look(0, 0) = 1
            up(0, true) = 0
            trim(0, 0) = 2
            look(0, 0) = 4
            look(5, 59) = 0
            """);
        Script.refuse("numbers out of range", "", "look(-1, 0)", "look(6, 0)", "look(0, -1)", "look(0, 60)");
        edges();
        Script.end();
    }

    private static void edges() {
        Script.run("the first and the last unit, the least and the greatest offset", """
            change(0, 0, 16) = 0
            change(0, 1, 16) = 0
            append(0, 0, 5, 3) = 0
            fill(0, 59) = 2
            look(0, 0) = 1
            look(5, 0) = 1
            look(0, 59) = 3
            look(5, 59) = 3
            look(0, 58) = 0
            look(5, 1) = 0
            look(4, 59) = 0
            look(1, 0) = 0
            """);
        Script.run("a sealed unit, one that is not up, and no sequencer", """
            append(0, 0, 5, 3) = 0
            change(0, 0, 5) = 1
            up(0, false) = 2
            lose() = 1
            look(0, 0) = 1
            look(1, 0) = 1
            look(4, 0) = 1
            """);
        Script.run("a commit without effect is a commit all the same", """
            begin(0) = 0
            see(0, 0) = 0
            put(0, 0, 1) = 1
            append(1, 0, 5, 3) = 0
            commit(0) = false
            look(2, 1) = 2
            """);
    }
}
