/** Promise 3: read. */
public final class ReadTest {
    public static void main(String[] args) {
        Script.run("only the last unit of the chain counts", """
            append(0, 0, 7, 1) = -100
            read(0, 0) throws IndexOutOfBoundsException
            fill(0, 0) = 1
            up(0, false) = 0
            read(0, 0) = 7
            up(0, true) = 0
            up(1, false) = 0
            read(0, 0) throws IllegalStateException
            """);
        Script.run("each kind", """
            append(0, 2, -5, 3) = 0
            begin(0) = 0
            see(0, 2) = 0
            put(0, 1, 100) = 1
            put(0, 3, 200) = 2
            commit(0) = false
            fill(0, 2) = 2
            read(3, 0) = -5
            read(3, 1) = 2
            read(3, 2) throws UnsupportedOperationException
            read(3, 3) throws IndexOutOfBoundsException
            read(3, 59) throws IndexOutOfBoundsException
            trim(0, 1) = 4
            read(3, 0) throws NoSuchElementException
            read(3, 1) throws NoSuchElementException
            """);
        Script.run("the client's own layout, as long as the unit is not sealed above it", """
            append(0, 0, 1, 3) = 0
            up(1, false) = 0
            change(0, 0, 1) = 1
            up(1, true) = 0
            append(0, 0, 2, 3) = 1
            append(0, 0, 3, 3) = 2
            read(1, 0) = 1
            read(1, 2) throws IndexOutOfBoundsException
            read(1, 1) throws IllegalStateException
            read(0, 2) = 3
            """);
        Script.run("no sequencer is asked", """
            append(0, 0, 1, 3) = 0
            lose() = 1
            read(0, 0) = 1
            client(0, 1) = 0
            """);
        Script.refuse("numbers out of range, before anything else", "up(1, false)\nup(3, false)",
            "read(-1, 0)", "read(4, 0)", "read(0, -1)", "read(0, 60)", "read(0, -2147483648)");
        Script.end();
    }
}
