/** Promise 16: drop. */
public final class DropTest {
    public static void main(String[] args) {
        Script.run("how many it put, or -1", """
            drop(0) = -1
            begin(0) = 0
            drop(0) = 0
            client(0, 8) = 0
            drop(0) = -1
            begin(0) = 0
            put(0, 0, 1) = 1
            put(0, 0, 2) = 1
            put(0, 3, 2) = 2
            see(0, 1) = 0
            drop(1) = -1
            client(0, 8) = 1
            drop(0) = 2
            drop(0) = -1
            count(2) = 0
            sync(0) = 0
            get(0, 0) = 0
            """);
        Script.run("after a commit there is nothing to drop", """
            begin(0) = 0
            put(0, 0, 1) = 1
            commit(0) = true
            drop(0) = -1
            """);
        Script.refuse("numbers out of range", "", "drop(-1)", "drop(4)");
        edges();
        Script.end();
    }

    private static void edges() {
        Script.run("the least and the greatest number, for the first and the last client", """
            drop(0) = -1
            drop(3) = -1
            begin(3) = 0
            put(3, 0, 1) = 1
            put(3, 1, 1) = 2
            put(3, 2, 1) = 3
            put(3, 3, 1) = 4
            drop(0) = -1
            drop(3) = 4
            drop(3) = -1
            """);
        Script.run("an empty one, and one that only read", """
            begin(0) = 0
            drop(0) = 0
            begin(0) = 0
            see(0, 0) = 0
            drop(0) = 0
            client(0, 8) = 0
            """);
        Script.run("after a commit that threw something it is still there", """
            begin(0) = 0
            put(0, 0, 1) = 1
            lose() = 0
            commit(0) throws IllegalStateException
            drop(0) = 1
            drop(0) = -1
            commit(0) throws IllegalStateException
            """);
        Script.run("what was written before stays written", """
            begin(0) = 0
            put(0, 0, 1) = 1
            up(1, false) = 0
            commit(0) throws IllegalStateException
            drop(0) = 1
            look(0, 0) = 2
            count(2) = 1
            """);
        Script.run("the registers stay as they are", """
            append(0, 0, 5, 3) = 0
            sync(0) = 1
            begin(0) = 1
            put(0, 0, 6) = 1
            drop(0) = 1
            get(0, 0) = 5
            client(0, 2) = 1
            client(0, 1) = 1
            """);
    }
}
