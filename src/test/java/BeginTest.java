/** Promise 12: begin. */
public final class BeginTest {
    public static void main(String[] args) {
        Script.run("one transaction a client, and its position", """
            append(0, 0, 5, 3) = 0
            begin(0) = 0
            begin(0) throws IllegalStateException
            client(0, 8) = 1
            sync(1) = 1
            begin(1) = 1
            drop(0) = 0
            begin(0) = 0
            """);
        Script.run("it is empty, whatever the one before did", """
            begin(0) = 0
            see(0, 1) = 0
            put(0, 0, 5) = 1
            put(0, 2, 5) = 2
            drop(0) = 2
            append(1, 1, 3, 3) = 0
            sync(0) = 1
            begin(0) = 1
            see(0, 0) = 0
            put(0, 3, 7) = 1
            commit(0) = true
            get(0, 0) = 0
            get(0, 3) = 7
            begin(0) = 2
            drop(0) = 0
            """);
        Script.run("a refused one leaves the transaction as it is", """
            begin(0) = 0
            put(0, 0, 5) = 1
            begin(0) throws IllegalStateException
            see(0, 0) = 5
            drop(0) = 1
            """);
        Script.run("neither the sequencer nor units are needed", """
            lose() = 0
            begin(0) = 0
            """);
        Script.refuse("numbers out of range", "", "begin(-1)", "begin(4)");
        edges();
        Script.end();
    }

    private static void edges() {
        Script.run("the least and the greatest position", "begin(0) = 0\n" + "append(1, 0, 1, 3)\n".repeat(60) + """
            sync(3) = 60
            begin(3) = 60
            client(3, 8) = 1
            """);
        Script.same("a refused one changes nothing", """
            begin(3) = 0
            see(3, 1) = 0
            put(3, 0, 5) = 1
            put(3, 2, 5) = 2
            begin(3) throws IllegalStateException
            """, "begin(3) = 0\nsee(3, 1) = 0\nput(3, 0, 5) = 1\nput(3, 2, 5) = 2");
        Script.run("what was read before a refused one stays read", """
            begin(0) = 0
            see(0, 0) = 0
            append(1, 0, 5, 3) = 0
            sync(0) = 1
            begin(0) throws IllegalStateException
            commit(0) = false
            """);
        Script.run("after a commit, with and without effect, and after a drop", """
            begin(0) = 0
            commit(0) = true
            begin(0) = 0
            see(0, 0) = 0
            put(0, 1, 1) = 1
            append(1, 0, 5, 3) = 0
            commit(0) = false
            begin(0) = 2
            drop(0) = 0
            begin(0) = 2
            """);
        Script.run("not after a commit that threw something", """
            begin(0) = 0
            put(0, 1, 1) = 1
            lose() = 0
            commit(0) throws IllegalStateException
            begin(0) throws IllegalStateException
            """);
    }
}
