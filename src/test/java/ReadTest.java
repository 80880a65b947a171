/** Promise 3: read. */
public final class ReadTest {
    public static void main(String[] args) {
        Script.run("only the last unit of the chain counts", """
            append(0, 0, 7, 1) = -100
            read(0, 0) throws IndexOutOfBoundsException
            fill(0, 0) = 1
            up(0, false) = 0
            read(0, 0) = 7
            up(0, true) = 0
            up(1, false) = 0
            read(0, 0) throws IllegalStateException
            """);
        Script.run("each kind", """
            append(0, 2, -5, 3) = 0
            begin(0) = 0
            see(0, 2) = 0
            put(0, 1, 100) = 1
            put(0, 3, 200) = 2
            commit(0) = false
            fill(0, 2) = 2
            read(3, 0) = -5
            read(3, 1) = 2
            read(3, 2) throws UnsupportedOperationException
            read(3, 3) throws IndexOutOfBoundsException
            read(3, 59) throws IndexOutOfBoundsException
            trim(0, 1) = 4
            read(3, 0) throws NoSuchElementException
            read(3, 1) throws NoSuchElementException
            """);
        Script.run("the client's own layout, as long as the unit is not sealed above it", """
            append(0, 0, 1, 3) = 0
            up(1, false) = 0
            change(0, 0, 1) = 1
            up(1, true) = 0
            append(0, 0, 2, 3) = 1
            append(0, 0, 3, 3) = 2
            read(1, 0) = 1
            read(1, 2) throws IndexOutOfBoundsException
            read(1, 1) throws IllegalStateException
            read(0, 2) = 3
            """);
        Script.run("no sequencer is asked", """
            append(0, 0, 1, 3) = 0
            lose() = 1
            read(0, 0) = 1
            client(0, 1) = 0
            """);
        Script.refuse("numbers out of range, before anything else", "up(1, false)\nup(3, false)",
            "read(-1, 0)", "read(4, 0)", "read(0, -1)", "read(0, 60)", "read(0, -2147483648)");
        edges();
        Script.end();
    }

    private static void edges() {
        Script.run("the least and the greatest offset, for the first and the last client", """
            append(0, 0, 7, 3) = 0
            fill(0, 59) = 2
            read(0, 0) = 7
            read(3, 0) = 7
            read(0, 59) throws UnsupportedOperationException
            read(3, 59) throws UnsupportedOperationException
            read(0, 58) throws IndexOutOfBoundsException
            """);
        Script.run("a value at offset 59", "append(0, 0, 1, 0)\n".repeat(59) + """
            append(0, 0, 7, 3) = 59
            read(0, 59) = 7
            read(0, 58) throws IndexOutOfBoundsException
            """);
        Script.run("the least, the greatest and no value of a put", """
            append(0, 0, -2147483648, 3) = 0
            append(0, 0, 2147483647, 3) = 1
            append(0, 0, 0, 3) = 2
            read(0, 0) = -2147483648
            read(0, 1) = 2147483647
            read(0, 2) = 0
            """);
        Script.run("how many a commit puts: 1 and 4, the same register once", """
            begin(0) = 0
            put(0, 2, 100) = 1
            put(0, 2, 200) = 1
            commit(0) = true
            begin(0) = 1
            put(0, 0, 100) = 1
            put(0, 1, 100) = 2
            put(0, 2, 100) = 3
            put(0, 3, 100) = 4
            commit(0) = true
            read(1, 0) = 1
            read(1, 1) = 4
            """);
        Script.run("a unit that is not up comes before nothing there", """
            up(1, false) = 0
            read(0, 0) throws IllegalStateException
            up(1, true) = 0
            read(0, 0) throws IndexOutOfBoundsException
            """);
        Script.run("a unit that is not up comes before junk and before a trim", """
            fill(0, 2) = 2
            trim(0, 0) = 2
            up(1, false) = 0
            read(0, 0) throws IllegalStateException
            read(0, 2) throws IllegalStateException
            up(1, true) = 0
            read(0, 0) throws NoSuchElementException
            read(0, 2) throws UnsupportedOperationException
            """);
        Script.run("a sealed unit comes before nothing there, junk and a trim", """
            fill(0, 2) = 2
            trim(0, 0) = 2
            change(0, 1, 34) = 3
            read(1, 0) throws IllegalStateException
            read(1, 2) throws IllegalStateException
            read(1, 4) throws IllegalStateException
            learn(1) = 2
            read(1, 0) throws NoSuchElementException
            read(1, 2) throws UnsupportedOperationException
            read(1, 4) throws IndexOutOfBoundsException
            """);
        Script.run("the last of three units, and the only one", """
            change(0, 0, 456) = 0
            change(0, 1, 3) = 0
            append(0, 0, 5, 2) = -100
            append(0, 0, 6, 1) = 1
            read(0, 0) throws IndexOutOfBoundsException
            read(0, 1) = 6
            fill(0, 0) = 1
            read(0, 0) = 5
            """);
        Script.same("a read changes nothing, whatever it throws", """
            append(0, 0, 5, 3) = 0
            fill(0, 2) = 2
            read(0, 0) = 5
            read(0, 1) throws IndexOutOfBoundsException
            read(0, 2) throws UnsupportedOperationException
            """, "append(0, 0, 5, 3) = 0\nfill(0, 2) = 2");
    }
}
