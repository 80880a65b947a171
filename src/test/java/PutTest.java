/** Promise 14: put. */
public final class PutTest {
    public static void main(String[] args) {
        Script.run("how many registers it puts", """
            begin(0) = 0
            put(0, 3, -1) = 1
            put(0, 3, -2) = 1
            put(0, 0, 0) = 2
            put(0, 1, 2147483647) = 3
            put(0, 2, -2147483648) = 4
            put(0, 0, 9) = 4
            see(0, 3) = -2
            see(0, 0) = 9
            see(0, 2) = -2147483648
            get(0, 3) = 0
            commit(0) = true
            get(0, 3) = -2
            get(0, 1) = 2147483647
            """);
        Script.run("each client its own", """
            begin(0) = 0
            begin(1) = 0
            put(0, 0, 5) = 1
            put(1, 1, 6) = 1
            see(1, 0) = 0
            drop(0) = 1
            see(1, 1) = 6
            """);
        Script.run("a put of the same value and age 0 is a put all the same", """
            begin(0) = 0
            put(0, 0, 0) = 1
            commit(0) = true
            client(0, 2) = 1
            """);
        Script.run("no transaction", """
            put(0, 0, 1) throws IllegalStateException
            begin(0) = 0
            commit(0) = true
            put(0, 0, 1) throws IllegalStateException
            """);
        Script.refuse("numbers out of range, before anything else", "",
            "put(-1, 0, 0)", "put(4, 0, 0)", "put(0, -1, 0)", "put(0, 4, 0)");
        edges();
        Script.end();
    }

    private static void edges() {
        Script.run("from 1 to 4, and never more", """
            begin(3) = 0
            put(3, 0, 1) = 1
            put(3, 3, 1) = 2
            put(3, 1, 1) = 3
            put(3, 2, 1) = 4
            put(3, 0, 2) = 4
            put(3, 1, 2) = 4
            put(3, 2, 2) = 4
            put(3, 3, 2) = 4
            drop(3) = 4
            """);
        Script.run("what is read is not counted", """
            begin(0) = 0
            see(0, 0) = 0
            see(0, 1) = 0
            put(0, 2, 1) = 1
            put(0, 0, 1) = 2
            """);
        Script.same("no transaction: nothing is put", """
            put(0, 0, 5) throws IllegalStateException
            put(3, 3, 5) throws IllegalStateException
            """, "");
        Script.run("what was refused before begin is not put", """
            put(0, 0, 5) throws IllegalStateException
            begin(0) = 0
            drop(0) = 0
            put(0, 0, 5) throws IllegalStateException
            begin(0) = 0
            put(0, 1, 5) = 1
            see(0, 0) = 0
            """);
        Script.same("nothing is written before the commit", """
            begin(0) = 0
            put(0, 0, 5) = 1
            drop(0) = 1
            """, "");
    }
}
