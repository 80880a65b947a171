/** Promise 15: commit. */
public final class CommitTest {
    public static void main(String[] args) {
        withoutPuts();
        withPuts();
        thrown();
        empty();
        order();
        stays();
        Script.end();
    }

    private static void withoutPuts() {
        Script.run("nothing put: only the ages as they are played, and nothing written", """
            append(1, 0, 5, 3) = 0
            begin(0) = 0
            see(0, 0) = 0
            commit(0) = true
            client(0, 8) = 0
            client(0, 1) = 0
            begin(0) = 0
            see(0, 1) = 0
            see(0, 0) = 0
            sync(0) = 1
            commit(0) = false
            client(0, 8) = 0
            begin(0) = 1
            commit(0) = true
            count(2) = 1
            """);
        Script.run("nothing put: the sequencer and units are not needed", """
            lose() = 0
            up(0, false) = 0
            begin(0) = 0
            see(0, 0) = 0
            commit(0) = true
            """);
        Script.run("the same value of another age is not the same", """
            append(1, 0, 5, 3) = 0
            sync(0) = 1
            begin(0) = 1
            see(0, 0) = 5
            append(1, 0, 5, 3) = 1
            sync(0) = 2
            commit(0) = false
            """);
    }

    private static void withPuts() {
        Script.run("written to all units of its chain and played", """
            append(1, 0, 5, 3) = 0
            begin(0) = 0
            put(0, 1, 6) = 1
            put(0, 2, 7) = 2
            commit(0) = true
            client(0, 8) = 0
            client(0, 1) = 2
            look(2, 1) = 2
            look(3, 1) = 2
            get(0, 0) = 5
            get(0, 1) = 6
            get(0, 2) = 7
            client(0, 2) = 1
            client(0, 3) = 2
            client(0, 4) = 2
            count(2) = 2
            """);
        Script.run("to all three units of a chain", """
            change(0, 0, 456) = 0
            begin(0) = 0
            put(0, 1, 6) = 1
            commit(0) = true
            look(3, 0) = 2
            look(4, 0) = 2
            look(5, 0) = 2
            """);
        Script.run("no effect if one of the ages is another: it is in the log all the same", """
            begin(0) = 0
            see(0, 0) = 0
            see(0, 3) = 0
            put(0, 1, 6) = 1
            append(1, 3, 5, 3) = 0
            commit(0) = false
            client(0, 8) = 0
            client(0, 1) = 2
            look(2, 1) = 2
            read(0, 1) = 1
            get(0, 1) = 0
            client(0, 3) = 0
            sync(2) = 2
            get(2, 1) = 0
            """);
        Script.run("other registers may change", """
            begin(0) = 0
            see(0, 0) = 0
            put(0, 1, 6) = 1
            append(1, 1, 5, 3) = 0
            append(1, 2, 5, 3) = 1
            commit(0) = true
            get(0, 1) = 6
            client(0, 3) = 3
            """);
        Script.run("a commit without effect changes no age", """
            begin(0) = 0
            begin(1) = 0
            begin(2) = 0
            see(0, 0) = 0
            put(0, 1, 1) = 1
            see(1, 1) = 0
            put(1, 2, 2) = 1
            see(2, 2) = 0
            put(2, 3, 3) = 1
            commit(0) = true
            commit(1) = false
            commit(2) = true
            sync(3) = 3
            get(3, 1) = 1
            get(3, 2) = 0
            get(3, 3) = 3
            """);
    }

    private static void thrown() {
        Script.run("a hole before it: token, units and transaction stay", """
            append(1, 0, 5, 3) = 0
            append(1, 0, 6, 1) = -99
            begin(0) = 0
            see(0, 3) = 0
            put(0, 3, 1) = 1
            commit(0) throws IndexOutOfBoundsException
            client(0, 8) = 1
            client(0, 1) = 1
            count(2) = 3
            look(0, 2) = 2
            look(1, 2) = 2
            fill(0, 1) = 1
            put(0, 2, 4) = 2
            commit(0) = false
            client(0, 8) = 0
            client(0, 1) = 4
            get(0, 3) = 1
            client(0, 5) = 3
            get(0, 2) = 0
            """);
        Script.run("what is put after something was thrown is not in what was written", """
            append(1, 0, 6, 1) = -100
            begin(0) = 0
            put(0, 3, 1) = 1
            commit(0) throws IndexOutOfBoundsException
            put(0, 3, 2) = 1
            put(0, 2, 2) = 2
            see(0, 1) = 0
            fill(1, 0) = 1
            sync(1) = 2
            get(1, 3) = 1
            get(1, 2) = 0
            read(1, 1) = 1
            drop(0) = 2
            begin(0) = 0
            drop(0) = 0
            sync(2) = 2
            get(2, 3) = 1
            """);
        Script.run("a trim before it", """
            append(1, 0, 6, 3) = 0
            trim(1, 0) = 2
            begin(0) = 0
            put(0, 3, 1) = 1
            commit(0) throws NoSuchElementException
            client(0, 8) = 1
            look(3, 1) = 2
            """);
        Script.run("a unit that is not up, or full there", """
            begin(0) = 0
            put(0, 3, 1) = 1
            up(1, false) = 0
            commit(0) throws IllegalStateException
            look(0, 0) = 2
            count(2) = 1
            fill(0, 1) = 2
            commit(0) throws UnsupportedOperationException
            count(2) = 2
            client(0, 8) = 1
            """);
        Script.run("no sequencer, or one of another epoch", """
            begin(0) = 0
            put(0, 3, 1) = 1
            lose() = 0
            commit(0) throws IllegalStateException
            change(1, 0, 12) = 0
            commit(0) throws IllegalStateException
            count(2) = 0
            client(0, 8) = 1
            learn(0) = 2
            commit(0) = true
            """);
        Script.run("a full log", "append(0, 0, 1, 3)\n".repeat(60) + """
            begin(0) = 0
            put(0, 3, 1) = 1
            commit(0) throws IndexOutOfBoundsException
            client(0, 1) = 0
            client(0, 8) = 1
            """);
        Script.run("no transaction", """
            commit(0) throws IllegalStateException
            begin(1) = 0
            commit(0) throws IllegalStateException
            commit(1) = true
            commit(1) throws IllegalStateException
            """);
        Script.refuse("numbers out of range, before anything else", "", "commit(-1)", "commit(4)");
    }

    private static void empty() {
        Script.run("neither read nor put: true, and over", """
            begin(0) = 0
            commit(0) = true
            client(0, 8) = 0
            commit(0) throws IllegalStateException
            """);
        Script.run("the ages of what was read are looked at, and not those of what was not", """
            begin(0) = 0
            see(0, 0) = 0
            append(1, 1, 5, 3) = 0
            sync(0) = 1
            commit(0) = true
            """);
        Script.run("nothing put: what is not played yet does not count", """
            begin(0) = 0
            see(0, 0) = 0
            append(1, 0, 5, 3) = 0
            commit(0) = true
            client(0, 1) = 0
            """);
        Script.run("nothing put, and NEXT is 60", "append(1, 0, 1, 0)\n".repeat(60) + """
            begin(0) = 0
            see(0, 0) = 0
            commit(0) = true
            count(2) = 60
            """);
        Script.run("nothing put, and an old layout", """
            begin(0) = 0
            see(0, 0) = 0
            change(1, 0, 12) = 0
            commit(0) = true
            client(0, 8) = 0
            """);
        Script.same("nothing put, and not the same ages: over, and nothing else is done", """
            begin(3) = 0
            see(3, 2) = 0
            append(1, 2, 5, 3) = 0
            sync(3) = 1
            commit(3) = false
            """, "append(1, 2, 5, 3) = 0\nsync(3) = 1");
        for (int register = 0; register < 4; register++) {
            Script.run("nothing put: the age of register " + register + " alone is another", """
                begin(0) = 0
                see(0, 0) = 0
                see(0, 1) = 0
                see(0, 2) = 0
                see(0, 3) = 0
                append(1, %d, 0, 3) = 0
                sync(0) = 1
                commit(0) = false
                """.formatted(register));
        }
    }

    private static void order() {
        Script.run("no token comes before a unit that is not up", "append(1, 0, 1, 0)\n".repeat(60) + """
            begin(0) = 0
            put(0, 0, 5) = 1
            up(0, false) = 0
            up(2, false) = 0
            commit(0) throws IndexOutOfBoundsException
            lose() = 60
            commit(0) throws IllegalStateException
            """);
        Script.run("something there comes before a hole and before a trim", """
            append(1, 0, 5, 0) = -100
            begin(0) = 0
            put(0, 0, 5) = 1
            fill(0, 1) = 2
            fill(0, 2) = 2
            commit(0) throws UnsupportedOperationException
            trim(0, 0) = 2
            commit(0) throws UnsupportedOperationException
            commit(0) throws NoSuchElementException
            count(2) = 4
            """);
        Script.run("a unit that it writes and that is not up comes before a hole", """
            append(1, 0, 5, 0) = -100
            begin(0) = 0
            put(0, 0, 5) = 1
            up(3, false) = 0
            commit(0) throws IllegalStateException
            up(3, true) = 0
            commit(0) throws IndexOutOfBoundsException
            """);
        Script.run("a unit that it plays and that is not up comes before a hole there", """
            append(1, 0, 5, 0) = -100
            begin(0) = 0
            put(0, 0, 5) = 1
            up(1, false) = 0
            commit(0) throws IllegalStateException
            look(2, 1) = 2
            look(3, 1) = 2
            """);
    }

    private static void stays() {
        Script.same("no transaction: nothing is done", """
            append(1, 0, 5, 3) = 0
            commit(0) throws IllegalStateException
            """, "append(1, 0, 5, 3) = 0");
        Script.run("a commit that threw something goes on with what it read and put", """
            begin(0) = 0
            see(0, 0) = 0
            put(0, 1, 6) = 1
            lose() = 0
            commit(0) throws IllegalStateException
            client(0, 8) = 1
            change(0, 0, 12) = 0
            append(0, 0, 5, 3) = 0
            put(0, 2, 7) = 2
            commit(0) = false
            read(0, 1) = 2
            client(0, 8) = 0
            """);
        Script.run("what was played before it threw something stays played", """
            append(1, 0, 5, 3) = 0
            append(1, 1, 6, 3) = 1
            append(1, 2, 7, 0) = -98
            begin(0) = 0
            put(0, 3, 8) = 1
            commit(0) throws IndexOutOfBoundsException
            client(0, 1) = 2
            get(0, 0) = 5
            get(0, 1) = 6
            client(0, 3) = 2
            get(0, 3) = 0
            count(2) = 4
            look(2, 3) = 2
            look(3, 3) = 2
            """);
        Script.run("the units before one that is not up keep the commit", """
            change(0, 0, 456) = 0
            begin(0) = 0
            put(0, 3, 8) = 1
            up(5, false) = 2
            commit(0) throws IllegalStateException
            look(3, 0) = 2
            look(4, 0) = 2
            look(5, 0) = 0
            count(2) = 1
            client(0, 8) = 1
            """);
        Script.run("its chain of one unit", """
            change(0, 0, 6) = 0
            begin(0) = 0
            put(0, 3, 8) = 1
            commit(0) = true
            look(5, 0) = 2
            client(0, 5) = 1
            """);
    }
}
