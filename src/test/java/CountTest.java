/** Promise 19: count. */
public final class CountTest {
    public static void main(String[] args) {
        Script.run("each number", """
            append(0, 0, 5, 3) = 0
            append(0, 0, 5, 0) = -99
            count(0) = 1
            count(1) = 1
            count(2) = 2
            count(3) = 0
            lose() = 2
            count(3) = 1
            count(2) = 2
            up(1, false) = 0
            change(0, 0, 5) = 1
            count(0) = 2
            count(1) = 2
            count(2) = 1
            count(3) = 0
            count(4) = 2
            count(5) = 0
            count(6) = 2
            count(7) = 2
            count(8) = 2
            count(9) = 0
            change(0, 1, 6) = 1
            count(4) = 2
            count(6) = 3
            count(8) = 3
            count(9) = 3
            """);
        Script.refuse("numbers out of range", "", "count(-1)", "count(10)", "count(-2147483648)");
        edges();
        Script.end();
    }

    private static void edges() {
        Script.run("NEXT from 0 to 60", "count(2) = 0\n" + "append(0, 0, 1, 0)\n".repeat(60) + """
            count(2) = 60
            append(0, 0, 1, 0) throws IndexOutOfBoundsException
            count(2) = 60
            """);
        Script.run("the seal of the first and of the last unit", """
            change(0, 0, 6) = 0
            count(4) = 2
            count(9) = 2
            count(8) = 0
            change(0, 0, 6) = 0
            count(4) = 2
            count(9) = 3
            count(8) = 0
            """);
        Script.run("a lost sequencer keeps its epoch and NEXT", """
            change(0, 0, 12) = 0
            append(0, 0, 5, 3) = 0
            lose() = 1
            count(0) = 2
            count(1) = 2
            count(2) = 1
            count(3) = 1
            """);
    }
}
