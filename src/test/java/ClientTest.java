/** Promise 18: client. */
public final class ClientTest {
    public static void main(String[] args) {
        Script.run("each number of one client alone", """
            append(0, 0, 5, 3) = 0
            append(0, 3, 5, 3) = 1
            append(0, 1, 5, 3) = 2
            append(0, 3, 5, 3) = 3
            sync(1) = 4
            client(1, 0) = 1
            client(1, 1) = 4
            client(1, 2) = 1
            client(1, 3) = 3
            client(1, 4) = 0
            client(1, 5) = 4
            client(1, 8) = 0
            begin(1) = 4
            client(1, 8) = 1
            client(0, 8) = 0
            client(0, 1) = 0
            client(0, 5) = 0
            change(2, 0, 6) = 4
            change(2, 1, 651) = 4
            client(2, 0) = 3
            client(2, 6) = 6
            client(2, 7) = 651
            client(1, 0) = 1
            client(1, 6) = 12
            client(1, 7) = 34
            drop(1) = 0
            client(1, 8) = 0
            """);
        Script.refuse("numbers out of range", "", "client(-1, 0)", "client(4, 0)", "client(0, -1)", "client(0, 9)");
        edges();
        Script.end();
    }

    private static void edges() {
        Script.run("the greatest numbers: position 60 and age 60", "append(0, 3, 1, 3)\n".repeat(60) + """
            sync(3) = 60
            client(3, 1) = 60
            client(3, 5) = 60
            client(3, 2) = 0
            client(3, 4) = 0
            """);
        Script.run("rows of one and of three units", """
            change(3, 0, 1) = 0
            change(3, 1, 654) = 0
            client(3, 6) = 1
            client(3, 7) = 654
            change(3, 0, 123) = 0
            client(3, 6) = 123
            client(3, 7) = 654
            client(3, 0) = 4
            client(0, 0) = 1
            """);
        Script.same("it only tells", """
            begin(0) = 0
            client(0, 0) = 1
            client(0, 1) = 0
            client(0, 8) = 1
            """, "begin(0) = 0");
    }
}
