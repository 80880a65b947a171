/** Promise 6: learn. */
public final class LearnTest {
    public static void main(String[] args) {
        Script.run("the installed layout is known from then on", """
            learn(3) = 1
            change(0, 0, 56) = 0
            change(0, 1, 1) = 0
            client(3, 0) = 1
            client(3, 6) = 12
            client(3, 7) = 34
            learn(3) = 3
            client(3, 0) = 3
            client(3, 6) = 56
            client(3, 7) = 1
            client(2, 0) = 1
            append(3, 0, 5, 3) = 0
            look(4, 0) = 1
            """);
        Script.run("position, registers and transaction stay", """
            append(1, 2, 5, 3) = 0
            sync(1) = 1
            begin(1) = 1
            put(1, 0, 1) = 1
            change(0, 0, 12) = 1
            learn(1) = 2
            client(1, 1) = 1
            client(1, 4) = 1
            get(1, 2) = 5
            client(1, 8) = 1
            drop(1) = 1
            """);
        Script.run("neither units nor the sequencer are needed", """
            change(0, 0, 1) = 0
            up(0, false) = 2
            up(2, false) = 2
            up(3, false) = 2
            lose() = 0
            learn(2) = 2
            count(3) = 1
            """);
        Script.refuse("numbers out of range", "", "learn(-1)", "learn(4)", "learn(2147483647)");
        edges();
        Script.end();
    }

    private static void edges() {
        Script.run("the first and the last client, each alone", """
            change(1, 0, 56) = 0
            learn(0) = 2
            client(0, 0) = 2
            client(3, 0) = 1
            learn(3) = 2
            client(3, 0) = 2
            client(3, 6) = 56
            client(2, 0) = 1
            """);
        Script.same("what is known already is learnt again without a change", """
            append(0, 0, 5, 3) = 0
            change(1, 0, 56) = 1
            learn(1) = 2
            learn(1) = 2
            """, "append(0, 0, 5, 3) = 0\nchange(1, 0, 56) = 1");
        Script.run("a layout is known as it was until the next learn", """
            change(0, 0, 56) = 0
            learn(1) = 2
            change(0, 0, 12) = 0
            client(1, 0) = 2
            client(1, 6) = 56
            learn(1) = 3
            client(1, 6) = 12
            """);
    }
}
