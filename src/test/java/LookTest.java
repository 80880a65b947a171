/** Promise 17: look. */
public final class LookTest {
    public static void main(String[] args) {
        Script.run("each kind, without using the unit", """
            append(0, 0, 5, 3) = 0
            begin(0) = 0
            put(0, 0, 1) = 1
            commit(0) = true
            fill(0, 2) = 2
            look(0, 0) = 1
            look(2, 1) = 2
            look(3, 1) = 2
            look(1, 2) = 3
            look(1, 4) = 0
            up(0, false) = 0
            look(0, 0) = 1
            up(0, true) = 0
            trim(0, 0) = 2
            look(0, 0) = 4
            look(5, 59) = 0
            """);
        Script.refuse("numbers out of range", "", "look(-1, 0)", "look(6, 0)", "look(0, -1)", "look(0, 60)");
        Script.end();
    }
}
