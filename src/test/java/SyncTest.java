/** Promise 10: sync. */
public final class SyncTest {
    public static void main(String[] args) {
        Script.run("a put sets value and age, the later one wins", """
            append(0, 0, 5, 3) = 0
            append(1, 3, -6, 3) = 1
            append(2, 0, 7, 3) = 2
            sync(3) = 3
            get(3, 0) = 7
            client(3, 2) = 3
            get(3, 3) = -6
            client(3, 5) = 2
            get(3, 1) = 0
            client(3, 3) = 0
            get(0, 0) = 0
            client(0, 1) = 0
            sync(3) = 3
            append(2, 1, 8, 3) = 3
            sync(3) = 4
            client(3, 3) = 4
            client(3, 2) = 3
            """);
        Script.run("an empty log", """
            sync(0) = 0
            """);
        Script.run("it stops at a hole, and goes on from there", """
            append(0, 0, 1, 3) = 0
            append(0, 0, 2, 1) = -99
            append(0, 0, 3, 3) = 2
            sync(0) throws IndexOutOfBoundsException
            client(0, 1) = 1
            get(0, 0) = 1
            fill(0, 1) = 1
            sync(0) = 3
            client(0, 2) = 3
            """);
        Script.run("junk is passed over", """
            fill(0, 0) = 2
            append(0, 0, 1, 0) = -100
            append(0, 0, 2, 3) = 1
            sync(0) = 2
            client(0, 2) = 2
            """);
        Script.run("it stops at a trim", """
            append(0, 0, 1, 3) = 0
            append(0, 0, 2, 3) = 1
            sync(0) = 2
            trim(0, 0) = 2
            sync(0) = 2
            sync(1) throws NoSuchElementException
            client(1, 1) = 0
            """);
        Script.run("it stops at a unit that is not up; only the last units are used", """
            append(0, 0, 1, 3) = 0
            append(0, 0, 2, 3) = 1
            up(0, false) = 0
            up(3, false) = 0
            sync(0) throws IllegalStateException
            client(0, 1) = 1
            up(3, true) = 0
            up(2, false) = 0
            sync(0) = 2
            """);
        Script.run("no sequencer, or one of another epoch, before anything is played", """
            append(0, 0, 1, 3) = 0
            lose() = 1
            sync(0) throws IllegalStateException
            client(0, 1) = 0
            change(0, 1, 34) = 1
            sync(1) throws IllegalStateException
            client(1, 1) = 0
            learn(1) = 2
            sync(1) = 1
            """);
        Script.run("commits that take effect and commits that do not", """
            begin(0) = 0
            see(0, 0) = 0
            put(0, 1, 5) = 1
            put(0, 3, 6) = 2
            begin(1) = 0
            see(1, 3) = 0
            see(1, 2) = 0
            put(1, 0, 9) = 1
            commit(0) = true
            commit(1) = false
            sync(2) = 2
            get(2, 0) = 0
            client(2, 2) = 0
            get(2, 1) = 5
            client(2, 3) = 1
            get(2, 3) = 6
            client(2, 5) = 1
            """);
        Script.run("a full log", "append(0, 2, 1, 3)\n".repeat(60) + """
            sync(1) = 60
            client(1, 4) = 60
            sync(1) = 60
            """);
        Script.refuse("numbers out of range, before anything else", "lose()", "sync(-1)", "sync(4)");
        edges();
        Script.end();
    }

    private static void edges() {
        Script.run("lost, though nothing is to be played", """
            sync(0) = 0
            lose() = 0
            sync(0) throws IllegalStateException
            """);
        Script.run("another epoch, though nothing is to be played", """
            change(0, 0, 12) = 0
            sync(1) throws IllegalStateException
            sync(0) = 0
            """);
        Script.run("lost comes before a hole and before a trim", """
            append(0, 0, 5, 0) = -100
            lose() = 1
            sync(0) throws IllegalStateException
            trim(0, 0) = 2
            sync(0) throws IllegalStateException
            """);
        Script.run("another epoch comes before a hole and before a trim", """
            append(0, 0, 5, 3) = 0
            append(0, 0, 5, 3) = 1
            trim(0, 0) = 2
            change(0, 0, 12) = 2
            sync(1) throws IllegalStateException
            learn(1) = 2
            sync(1) throws NoSuchElementException
            """);
        Script.run("the first and the last client, each its own position", """
            append(1, 0, 5, 3) = 0
            sync(0) = 1
            client(3, 1) = 0
            sync(3) = 1
            client(1, 1) = 0
            get(3, 0) = 5
            get(1, 0) = 0
            """);
        Script.run("a transaction stays open", """
            append(1, 0, 5, 3) = 0
            begin(0) = 0
            put(0, 0, 7) = 1
            sync(0) = 1
            client(0, 8) = 1
            see(0, 0) = 7
            get(0, 0) = 5
            drop(0) = 1
            """);
    }
}
