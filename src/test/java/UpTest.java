/** Promise 8: up. */
public final class UpTest {
    public static void main(String[] args) {
        Script.run("a unit that is not up is not used, and what it has stays", """
            append(0, 0, 5, 3) = 0
            up(1, false) = 0
            up(1, false) = 0
            look(1, 0) = 1
            read(0, 0) throws IllegalStateException
            up(1, true) = 0
            up(1, true) = 0
            read(0, 0) = 5
            """);
        Script.run("its seal is answered, and stays", """
            up(3, false) = 0
            change(0, 0, 56) = 0
            up(3, true) = 0
            up(4, false) = 2
            up(4, true) = 2
            up(2, true) = 2
            change(0, 0, 56) = 0
            up(5, true) = 3
            up(3, true) = 3
            up(0, true) = 2
            """);
        Script.refuse("numbers out of range", "", "up(-1, true)", "up(6, true)", "up(-1, false)", "up(6, false)");
        edges();
        Script.end();
    }

    private static void edges() {
        Script.run("the first and the last unit", """
            change(0, 0, 16) = 0
            append(0, 0, 5, 3) = 0
            up(0, false) = 2
            append(0, 0, 5, 0) = -99
            append(0, 0, 5, 3) throws IllegalStateException
            look(0, 2) = 0
            up(0, true) = 2
            up(5, false) = 2
            read(0, 0) throws IllegalStateException
            look(5, 0) = 1
            up(5, true) = 2
            read(0, 0) = 5
            """);
        Script.same("what it has stays, and so does all else", """
            append(0, 0, 5, 3) = 0
            fill(0, 2) = 2
            change(0, 0, 123) = 3
            up(0, false) = 2
            up(1, false) = 2
            up(2, false) = 2
            up(3, false) = 2
            up(4, false) = 0
            up(5, false) = 0
            """, "append(0, 0, 5, 3) = 0\nfill(0, 2) = 2\nchange(0, 0, 123) = 3");
        Script.run("up while it is up, not up while it is not", """
            up(0, true) = 0
            append(0, 0, 5, 3) = 0
            up(3, false) = 0
            up(3, false) = 0
            append(0, 0, 5, 3) throws IllegalStateException
            """);
        Script.run("not up at a change: its seal stays, and it goes on where it is used", """
            up(3, false) = 0
            change(0, 0, 12) = 0
            up(3, true) = 0
            count(7) = 0
            append(0, 0, 5, 3) = 0
            append(0, 0, 6, 3) = 1
            look(3, 1) = 1
            """);
    }
}
