/** Promise 9: lose. */
public final class LoseTest {
    public static void main(String[] args) {
        Script.run("lost until a change, with its epoch and next", """
            append(0, 0, 5, 3) = 0
            append(0, 0, 5, 0) = -99
            lose() = 2
            lose() = 2
            count(3) = 1
            count(2) = 2
            count(1) = 1
            append(0, 0, 5, 3) throws IllegalStateException
            sync(0) throws IllegalStateException
            begin(0) = 0
            put(0, 0, 1) = 1
            commit(0) throws IllegalStateException
            read(0, 0) = 5
            change(0, 1, 34) = 1
            count(3) = 0
            count(1) = 2
            append(0, 0, 5, 3) = 1
            """);
        Script.run("learning does not bring it back", """
            lose() = 0
            learn(0) = 1
            append(0, 0, 5, 3) throws IllegalStateException
            """);
        edges();
        Script.end();
    }

    private static void edges() {
        Script.run("NEXT is 60", "append(0, 0, 1, 0)\n".repeat(60) + """
            lose() = 60
            lose() = 60
            count(2) = 60
            count(3) = 1
            """);
        Script.run("nothing was taken", """
            lose() = 0
            count(3) = 1
            count(2) = 0
            count(1) = 1
            count(0) = 1
            """);
        Script.same("a second lose changes nothing", """
            append(0, 0, 5, 3) = 0
            lose() = 1
            lose() = 1
            """, "append(0, 0, 5, 3) = 0\nlose() = 1");
        Script.run("a refused change does not bring it back", """
            lose() = 0
            up(4, false) = 0
            change(0, 0, 5) throws IllegalStateException
            change(0, 0, 0) throws IllegalArgumentException
            count(3) = 1
            append(0, 0, 5, 3) throws IllegalStateException
            """);
    }
}
