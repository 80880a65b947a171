/** Promise 12: begin. */
public final class BeginTest {
    public static void main(String[] args) {
        Script.run("one transaction a client, and its position", """
            append(0, 0, 5, 3) = 0
            begin(0) = 0
            begin(0) throws IllegalStateException
            client(0, 8) = 1
            sync(1) = 1
            begin(1) = 1
            drop(0) = 0
            begin(0) = 0
            """);
        Script.run("it is empty, whatever the one before did", """
            begin(0) = 0
            see(0, 1) = 0
            put(0, 0, 5) = 1
            put(0, 2, 5) = 2
            drop(0) = 2
            append(1, 1, 3, 3) = 0
            sync(0) = 1
            begin(0) = 1
            see(0, 0) = 0
            put(0, 3, 7) = 1
            commit(0) = true
            get(0, 0) = 0
            get(0, 3) = 7
            begin(0) = 2
            drop(0) = 0
            """);
        Script.run("a refused one leaves the transaction as it is", """
            begin(0) = 0
            put(0, 0, 5) = 1
            begin(0) throws IllegalStateException
            see(0, 0) = 5
            drop(0) = 1
            """);
        Script.run("neither the sequencer nor units are needed", """
            lose() = 0
            begin(0) = 0
            """);
        Script.refuse("numbers out of range", "", "begin(-1)", "begin(4)");
        Script.end();
    }
}
