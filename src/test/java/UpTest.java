/** Promise 8: up. */
public final class UpTest {
    public static void main(String[] args) {
        Script.run("a unit that is not up is not used, and what it has stays", """
            append(0, 0, 5, 3) = 0
            up(1, false) = 0
            up(1, false) = 0
            look(1, 0) = 1
            read(0, 0) throws IllegalStateException
            up(1, true) = 0
            up(1, true) = 0
            read(0, 0) = 5
            """);
        Script.run("its seal is answered, and stays", """
            up(3, false) = 0
            change(0, 0, 56) = 0
            up(3, true) = 0
            up(4, false) = 2
            up(4, true) = 2
            up(2, true) = 2
            change(0, 0, 56) = 0
            up(5, true) = 3
            up(3, true) = 3
            up(0, true) = 2
            """);
        Script.refuse("numbers out of range", "", "up(-1, true)", "up(6, true)", "up(-1, false)", "up(6, false)");
        Script.end();
    }
}
