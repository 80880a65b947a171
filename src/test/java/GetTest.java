/** Promise 11: get. */
public final class GetTest {
    public static void main(String[] args) {
        Script.run("the value as it was played, and no playing", """
            append(0, 0, 5, 3) = 0
            append(0, 3, -2147483648, 3) = 1
            get(0, 0) = 0
            client(0, 1) = 0
            sync(0) = 2
            get(0, 0) = 5
            get(0, 3) = -2147483648
            get(0, 1) = 0
            get(1, 0) = 0
            append(0, 0, 6, 3) = 2
            get(0, 0) = 5
            begin(0) = 2
            put(0, 0, 9) = 1
            get(0, 0) = 5
            lose() = 3
            up(1, false) = 0
            get(0, 0) = 5
            """);
        Script.run("it is not read by the transaction", """
            begin(0) = 0
            get(0, 0) = 0
            append(0, 0, 6, 3) = 0
            sync(0) = 1
            commit(0) = true
            """);
        Script.refuse("numbers out of range", "", "get(-1, 0)", "get(4, 0)", "get(0, -1)", "get(0, 4)");
        edges();
        Script.end();
    }

    private static void edges() {
        Script.run("the first and the last register of the first and the last client", """
            append(1, 0, 5, 3) = 0
            append(1, 3, 6, 3) = 1
            sync(0) = 2
            sync(3) = 2
            get(0, 0) = 5
            get(0, 3) = 6
            get(3, 0) = 5
            get(3, 3) = 6
            get(3, 1) = 0
            get(3, 2) = 0
            """);
        Script.run("what a commit without effect put is not there", """
            begin(0) = 0
            see(0, 1) = 0
            put(0, 0, 5) = 1
            append(1, 1, 6, 3) = 0
            commit(0) = false
            get(0, 0) = 0
            get(0, 1) = 6
            """);
    }
}
