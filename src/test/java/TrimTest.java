/** Promise 5: trim. */
public final class TrimTest {
    public static void main(String[] args) {
        Script.run("every offset up to this one, whatever the units have", """
            append(0, 0, 1, 3) = 0
            append(0, 0, 2, 1) = -99
            fill(0, 2) = 2
            trim(3, 2) = 6
            look(0, 0) = 4
            look(1, 0) = 4
            look(2, 1) = 4
            look(3, 1) = 4
            look(0, 2) = 4
            look(1, 2) = 4
            look(0, 1) = 0
            look(2, 0) = 0
            look(2, 3) = 0
            look(4, 0) = 0
            trim(0, 2) = 0
            trim(0, 4) = 4
            count(2) = 2
            """);
        Script.run("the edges", """
            trim(0, 0) = 2
            trim(0, 59) = 118
            trim(0, 59) = 0
            look(3, 59) = 4
            look(1, 58) = 4
            """);
        Script.run("what was trimmed before something is thrown stays so", """
            up(3, false) = 0
            trim(0, 5) throws IllegalStateException
            look(0, 0) = 4
            look(1, 0) = 4
            look(2, 1) = 4
            look(3, 1) = 0
            look(0, 2) = 0
            up(3, true) = 0
            trim(0, 1) = 1
            up(0, false) = 0
            trim(0, 1) throws IllegalStateException
            """);
        Script.run("a sealed unit", """
            change(0, 0, 56) = 0
            trim(1, 0) throws IllegalStateException
            look(0, 0) = 0
            trim(0, 0) = 2
            look(4, 0) = 4
            look(0, 0) = 0
            lose() = 0
            trim(0, 1) = 2
            """);
        Script.run("played registers stay", """
            append(0, 0, 8, 3) = 0
            sync(0) = 1
            trim(0, 0) = 2
            get(0, 0) = 8
            sync(0) = 1
            sync(1) throws NoSuchElementException
            """);
        Script.refuse("numbers out of range, before anything else", "up(0, false)",
            "trim(-1, 0)", "trim(4, 0)", "trim(0, -1)", "trim(0, 60)");
        edges();
        Script.end();
    }

    private static void edges() {
        Script.run("only a trim is not counted: nothing, a put, a commit and junk are", """
            change(0, 0, 1) = 0
            change(0, 1, 1) = 0
            append(0, 0, 5, 3) = 0
            begin(0) = 0
            put(0, 0, 5) = 1
            commit(0) = true
            fill(0, 2) = 1
            trim(0, 3) = 4
            look(0, 0) = 4
            look(0, 1) = 4
            look(0, 2) = 4
            look(0, 3) = 4
            look(0, 4) = 0
            trim(0, 3) = 0
            """);
        Script.run("offset 0 alone", """
            trim(3, 0) = 2
            look(0, 0) = 4
            look(1, 0) = 4
            look(2, 1) = 0
            look(3, 1) = 0
            look(0, 2) = 0
            trim(3, 0) = 0
            """);
        Script.run("offset 59: every offset, on chains of one and of three units", """
            change(0, 0, 456) = 0
            change(0, 1, 2) = 0
            trim(0, 58) = 119
            look(1, 59) = 0
            trim(0, 59) = 1
            look(1, 59) = 4
            look(3, 58) = 4
            look(5, 0) = 4
            look(1, 58) = 0
            look(3, 59) = 0
            """);
        Script.run("one of the units has a trim already", """
            up(1, false) = 0
            trim(0, 0) throws IllegalStateException
            look(0, 0) = 4
            up(1, true) = 0
            trim(0, 0) = 1
            """);
        Script.same("the first unit is not up: nothing is done", """
            append(0, 0, 5, 3) = 0
            up(0, false) = 0
            trim(0, 59) throws IllegalStateException
            """, "append(0, 0, 5, 3) = 0");
        Script.same("the second chain's first unit is not up: offset 0 alone is done", """
            up(2, false) = 0
            trim(0, 59) throws IllegalStateException
            """, "trim(0, 0) = 2");
        Script.same("trimmed units are used all the same", """
            trim(0, 59) = 120
            up(3, false) = 0
            trim(0, 59) throws IllegalStateException
            trim(0, 1) throws IllegalStateException
            trim(0, 0) = 0
            """, "trim(0, 59) = 120");
        Script.run("NEXT stays, and a trim behind it refuses what is written later", """
            trim(0, 1) = 4
            count(2) = 0
            append(0, 0, 5, 3) throws UnsupportedOperationException
            append(0, 0, 5, 3) throws UnsupportedOperationException
            append(0, 0, 5, 3) = 2
            """);
    }
}
