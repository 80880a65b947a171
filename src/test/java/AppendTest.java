/** Promise 2: append. */
public final class AppendTest {
    public static void main(String[] args) {
        Script.run("the whole chain, one chain for even and one for odd offsets", """
            append(0, 3, -7, 3) = 0
            append(3, 0, 2147483647, 2) = 1
            look(0, 0) = 1
            look(1, 0) = 1
            look(2, 0) = 0
            look(3, 0) = 0
            look(0, 1) = 0
            look(1, 1) = 0
            look(2, 1) = 1
            look(3, 1) = 1
            read(1, 0) = -7
            read(1, 1) = 2147483647
            sync(2) = 2
            get(2, 3) = -7
            get(2, 0) = 2147483647
            """);
        Script.run("fewer units than the chain has", """
            append(0, 0, 1, 0) = -100
            append(0, 0, 1, 1) = -99
            append(0, 0, 1, 2) = 2
            look(0, 0) = 0
            look(1, 0) = 0
            look(2, 1) = 1
            look(3, 1) = 0
            count(2) = 3
            """);
        Script.run("chains of one and of three units", """
            change(0, 0, 5) = 0
            change(0, 1, 361) = 0
            append(0, 0, 1, 0) = -100
            append(0, 0, 2, 2) = -99
            look(2, 1) = 1
            look(5, 1) = 1
            look(0, 1) = 0
            append(0, 0, 3, 1) = 2
            look(4, 2) = 1
            append(0, 0, 4, 3) = 3
            look(0, 3) = 1
            """);
        Script.run("a unit that is not up: the token and the units before it stay", """
            up(1, false) = 0
            append(0, 0, 1, 3) throws IllegalStateException
            count(2) = 1
            look(0, 0) = 1
            look(1, 0) = 0
            up(2, false) = 0
            append(0, 0, 1, 3) throws IllegalStateException
            count(2) = 2
            look(2, 1) = 0
            look(3, 1) = 0
            append(0, 0, 1, 1) = -98
            append(0, 0, 1, 0) = -97
            """);
        Script.run("no sequencer: no token", """
            lose() = 0
            append(0, 0, 1, 3) throws IllegalStateException
            count(2) = 0
            look(0, 0) = 0
            """);
        Script.run("another epoch than the sequencer's: no token, until it is learnt", """
            change(0, 0, 12) = 0
            append(1, 0, 1, 3) throws IllegalStateException
            append(1, 0, 1, 0) throws IllegalStateException
            count(2) = 0
            learn(1) = 2
            append(1, 0, 1, 3) = 0
            """);
        Script.run("what is there already is not written over", """
            trim(0, 0) = 2
            append(0, 0, 1, 3) throws UnsupportedOperationException
            fill(0, 1) = 2
            append(0, 0, 1, 3) throws UnsupportedOperationException
            look(0, 0) = 4
            look(2, 1) = 3
            fill(0, 2) = 2
            append(0, 0, 1, 0) = -98
            count(2) = 3
            """);
        Script.run("the first unit has an entry left from before: the later one is not written", """
            up(3, false) = 0
            append(0, 0, 1, 3) = 0
            append(0, 0, 1, 3) throws IllegalStateException
            up(3, true) = 0
            up(2, false) = 0
            change(0, 0, 12) = 1
            up(2, true) = 0
            look(2, 1) = 1
            append(0, 0, 2, 3) throws UnsupportedOperationException
            look(3, 1) = 0
            """);
        Script.run("a full log: 60 tokens and no more", "append(0, 0, 1, 0)\n".repeat(59) + """
            append(0, 0, 1, 3) = 59
            count(2) = 60
            append(0, 0, 1, 3) throws IndexOutOfBoundsException
            append(0, 0, 1, 0) throws IndexOutOfBoundsException
            count(2) = 60
            lose() = 60
            append(0, 0, 1, 3) throws IllegalStateException
            """);
        Script.refuse("numbers out of range, before anything else", "lose()",
            "append(-1, 0, 0, 0)", "append(4, 0, 0, 0)", "append(0, -1, 0, 0)", "append(0, 4, 0, 0)",
            "append(0, 0, 0, -1)", "append(0, 0, 0, 4)", "append(-2147483648, 0, 0, 0)");
        Script.run("numbers out of range take no token", """
            append(0, 4, 0, 3) throws IllegalArgumentException
            append(0, 0, 0, 4) throws IllegalArgumentException
            count(2) = 0
            """);
        edges();
        Script.end();
    }

    private static void edges() {
        Script.run("the first and the last client and register", """
            append(0, 0, 5, 3) = 0
            append(3, 3, 6, 3) = 1
            sync(1) = 2
            get(1, 0) = 5
            get(1, 3) = 6
            get(1, 1) = 0
            get(1, 2) = 0
            """);
        Script.run("as many units as the chain has, one fewer, and more", """
            append(0, 0, 5, 2) = 0
            append(0, 0, 5, 1) = -99
            append(0, 0, 5, 3) = 2
            append(0, 0, 5, 0) = -97
            """);
        Script.run("the greatest offset, with and without more units", "append(0, 0, 1, 0)\n".repeat(58) + """
            append(0, 0, 5, 1) = -42
            append(0, 0, 5, 2) = 59
            """);
        Script.same("it plays nothing, and the writer's registers stay", """
            append(0, 0, 5, 0) = -100
            get(0, 0) = 0
            client(0, 1) = 0
            client(0, 2) = 0
            """, "append(3, 3, 9, 0) = -100");
        Script.run("a transaction of the writer has nothing to do with it", """
            begin(0) = 0
            put(0, 0, 1) = 1
            append(0, 0, 5, 3) = 0
            see(0, 0) = 1
            drop(0) = 1
            read(0, 0) = 5
            """);
    }
}
