/** Promise 13: see. */
public final class SeeTest {
    public static void main(String[] args) {
        Script.run("the value, or what the transaction puts", """
            append(0, 2, 5, 3) = 0
            sync(0) = 1
            begin(0) = 1
            see(0, 2) = 5
            see(0, 1) = 0
            put(0, 2, 6) = 1
            see(0, 2) = 6
            put(0, 2, 7) = 1
            see(0, 2) = 7
            get(0, 2) = 5
            """);
        Script.run("what was put first is not read", """
            begin(0) = 0
            put(0, 0, 6) = 1
            see(0, 0) = 6
            append(1, 0, 5, 3) = 0
            commit(0) = true
            get(0, 0) = 6
            """);
        Script.run("what was read before it was put stays read", """
            begin(0) = 0
            see(0, 0) = 0
            put(0, 0, 6) = 1
            see(0, 0) = 6
            append(1, 0, 5, 3) = 0
            commit(0) = false
            get(0, 0) = 5
            """);
        Script.run("the age of the first reading stays, the value is the newest", """
            begin(0) = 0
            see(0, 0) = 0
            append(1, 0, 5, 3) = 0
            sync(0) = 1
            see(0, 0) = 5
            commit(0) = false
            begin(0) = 1
            see(0, 0) = 5
            commit(0) = true
            """);
        Script.run("nothing is played", """
            append(1, 0, 5, 3) = 0
            begin(0) = 0
            see(0, 0) = 0
            client(0, 1) = 0
            """);
        Script.run("no transaction", """
            see(0, 0) throws IllegalStateException
            begin(1) = 0
            see(0, 0) throws IllegalStateException
            see(1, 3) = 0
            drop(1) = 0
            see(1, 0) throws IllegalStateException
            """);
        Script.refuse("numbers out of range, before anything else", "",
            "see(-1, 0)", "see(4, 0)", "see(0, -1)", "see(0, 4)");
        edges();
        Script.end();
    }

    private static void edges() {
        Script.run("the first and the last register of the last client", """
            append(1, 0, 5, 3) = 0
            append(1, 3, 6, 3) = 1
            sync(3) = 2
            begin(3) = 2
            see(3, 0) = 5
            see(3, 3) = 6
            """);
        Script.run("a put of 0 is seen as it is", """
            append(1, 0, 5, 3) = 0
            sync(0) = 1
            begin(0) = 1
            put(0, 0, 0) = 1
            see(0, 0) = 0
            """);
        Script.run("a register seen at age 0, and put by another client since", """
            begin(0) = 0
            see(0, 3) = 0
            append(1, 3, 0, 3) = 0
            sync(0) = 1
            see(0, 3) = 0
            commit(0) = false
            """);
        Script.run("a register that is seen only after it was played", """
            begin(0) = 0
            append(1, 3, 5, 3) = 0
            sync(0) = 1
            see(0, 3) = 5
            commit(0) = true
            """);
        Script.same("no transaction: nothing is read", """
            see(0, 0) throws IllegalStateException
            see(3, 3) throws IllegalStateException
            """, "");
        Script.run("what was refused before begin is not read", """
            see(0, 0) throws IllegalStateException
            begin(0) = 0
            append(1, 0, 5, 3) = 0
            sync(0) = 1
            commit(0) = true
            """);
    }
}
