/** Promise 16: drop. */
public final class DropTest {
    public static void main(String[] args) {
        Script.run("how many it put, or -1", """
            drop(0) = -1
            begin(0) = 0
            drop(0) = 0
            client(0, 8) = 0
            drop(0) = -1
            begin(0) = 0
            put(0, 0, 1) = 1
            put(0, 0, 2) = 1
            put(0, 3, 2) = 2
            see(0, 1) = 0
            drop(1) = -1
            client(0, 8) = 1
            drop(0) = 2
            drop(0) = -1
            count(2) = 0
            sync(0) = 0
            get(0, 0) = 0
            """);
        Script.run("after a commit there is nothing to drop", """
            begin(0) = 0
            put(0, 0, 1) = 1
            commit(0) = true
            drop(0) = -1
            """);
        Script.refuse("numbers out of range", "", "drop(-1)", "drop(4)");
        Script.end();
    }
}
