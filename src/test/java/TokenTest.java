/** Terms: "To take a TOKEN: ... IllegalStateException; NEXT is 60: IndexOutOfBoundsException; else NEXT". */
public final class TokenTest {
    private static final String ALL_60 = "append(0, 0, 1, 0)\n".repeat(60);

    public static void main(String[] args) {
        refused();
        full();
        outOfRange();
        taken();
        Script.end();
    }

    private static void refused() {
        Script.same("append: the sequencer is lost", """
            lose() = 0
            append(0, 0, 5, 3) throws IllegalStateException
            append(0, 0, 5, 0) throws IllegalStateException
            """, "lose() = 0");
        Script.same("append: another epoch", """
            change(1, 0, 12) = 0
            append(0, 0, 5, 3) throws IllegalStateException
            append(0, 0, 5, 0) throws IllegalStateException
            """, "change(1, 0, 12) = 0");
        Script.same("append: lost, and another epoch", """
            change(1, 0, 12) = 0
            lose() = 0
            append(0, 0, 5, 3) throws IllegalStateException
            """, "change(1, 0, 12) = 0\nlose() = 0");
        Script.same("commit: the sequencer is lost", """
            begin(0) = 0
            put(0, 0, 5) = 1
            lose() = 0
            commit(0) throws IllegalStateException
            """, "begin(0) = 0\nput(0, 0, 5) = 1\nlose() = 0");
        Script.same("commit: another epoch", """
            begin(0) = 0
            put(0, 0, 5) = 1
            change(1, 0, 12) = 0
            commit(0) throws IllegalStateException
            """, "begin(0) = 0\nput(0, 0, 5) = 1\nchange(1, 0, 12) = 0");
        Script.run("the same epoch again", """
            change(1, 0, 12) = 0
            append(1, 0, 5, 3) = 0
            learn(0) = 2
            append(0, 0, 5, 3) = 1
            """);
    }

    private static void full() {
        Script.run("the last token is 59", "append(0, 0, 1, 0)\n".repeat(59) + """
            count(2) = 59
            append(0, 0, 5, 3) = 59
            count(2) = 60
            look(2, 59) = 1
            look(3, 59) = 1
            """);
        Script.run("the last token, and more units", "append(0, 0, 1, 0)\n".repeat(59) + """
            append(0, 0, 5, 1) = -41
            count(2) = 60
            """);
        Script.same("append: NEXT is 60", ALL_60 + """
            append(0, 0, 5, 3) throws IndexOutOfBoundsException
            append(0, 0, 5, 0) throws IndexOutOfBoundsException
            """, ALL_60);
        Script.same("commit: NEXT is 60", ALL_60 + """
            begin(0) = 0
            put(0, 0, 5) = 1
            commit(0) throws IndexOutOfBoundsException
            """, ALL_60 + "begin(0) = 0\nput(0, 0, 5) = 1");
        Script.run("commit takes the last token", "append(0, 0, 1, 3)\n".repeat(59) + """
            begin(0) = 0
            put(0, 2, 5) = 1
            commit(0) = true
            count(2) = 60
            client(0, 1) = 60
            client(0, 4) = 60
            look(3, 59) = 2
            """);
        Script.run("lost comes before NEXT is 60", ALL_60 + """
            begin(0) = 0
            put(0, 0, 5) = 1
            lose() = 60
            append(0, 0, 5, 3) throws IllegalStateException
            commit(0) throws IllegalStateException
            """);
        Script.run("another epoch comes before NEXT is 60", """
            fill(0, 59) = 2
            begin(0) = 0
            put(0, 0, 5) = 1
            change(1, 0, 12) = 60
            append(0, 0, 5, 3) throws IllegalStateException
            commit(0) throws IllegalStateException
            append(1, 0, 5, 3) throws IndexOutOfBoundsException
            learn(0) = 2
            commit(0) throws IndexOutOfBoundsException
            """);
        Script.run("NEXT is 60 comes before units that are not up", ALL_60 + """
            up(0, false) = 0
            up(1, false) = 0
            up(2, false) = 0
            up(3, false) = 0
            append(0, 0, 5, 3) throws IndexOutOfBoundsException
            """);
    }

    private static void outOfRange() {
        Script.same("a number out of range comes before NEXT is 60", ALL_60 + """
            append(0, 0, 5, 4) throws IllegalArgumentException
            append(0, 4, 5, 3) throws IllegalArgumentException
            append(4, 0, 5, 3) throws IllegalArgumentException
            commit(4) throws IllegalArgumentException
            """, ALL_60);
        Script.same("a number out of range comes before the token: none is taken", """
            append(0, 0, 5, 4) throws IllegalArgumentException
            append(0, 0, 5, -1) throws IllegalArgumentException
            append(0, 4, 5, 3) throws IllegalArgumentException
            append(0, -1, 5, 3) throws IllegalArgumentException
            """, "");
    }

    private static void taken() {
        Script.run("NEXT rises by 1 whoever takes it", """
            append(3, 0, 5, 3) = 0
            count(2) = 1
            append(0, 0, 5, 0) = -99
            count(2) = 2
            begin(1) = 0
            put(1, 0, 5) = 1
            fill(1, 1) = 2
            commit(1) = true
            count(2) = 3
            """);
        Script.run("a token stays taken if a unit refuses the entry", """
            up(0, false) = 0
            append(0, 0, 5, 3) throws IllegalStateException
            count(2) = 1
            fill(0, 1) = 2
            append(0, 0, 5, 3) throws UnsupportedOperationException
            count(2) = 2
            begin(0) = 0
            put(0, 0, 5) = 1
            commit(0) throws IllegalStateException
            count(2) = 3
            fill(0, 3) = 2
            commit(0) throws UnsupportedOperationException
            count(2) = 4
            """);
        Script.run("no other call takes one", """
            append(0, 0, 5, 3) = 0
            read(0, 0) = 5
            fill(0, 1) = 2
            trim(0, 2) = 6
            learn(0) = 1
            up(0, true) = 0
            sync(0) throws NoSuchElementException
            get(0, 0) = 0
            begin(0) = 0
            see(0, 0) = 0
            commit(0) = true
            begin(0) = 0
            put(0, 0, 1) = 1
            drop(0) = 1
            lose() = 1
            count(2) = 1
            """);
    }
}
