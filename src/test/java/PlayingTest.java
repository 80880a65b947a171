/** Terms: "PLAYING by a CLIENT up to an OFFSET: while POSITION is below it: ...". */
public final class PlayingTest {
    public static void main(String[] args) {
        notBelow();
        stops();
        order();
        entries();
        ends();
        Script.end();
    }

    private static void notBelow() {
        Script.run("an empty log: no unit is used", """
            up(1, false) = 0
            up(3, false) = 0
            sync(0) = 0
            """);
        Script.run("all is played: no unit is used, and a trim does not matter", """
            append(0, 0, 5, 3) = 0
            sync(0) = 1
            trim(0, 0) = 2
            up(0, false) = 0
            up(1, false) = 0
            up(3, false) = 0
            sync(0) = 1
            get(0, 0) = 5
            """);
        Script.run("something behind NEXT is not played", """
            append(0, 0, 5, 3) = 0
            fill(0, 1) = 2
            sync(0) = 1
            append(0, 0, 5, 3) throws UnsupportedOperationException
            sync(0) = 2
            """);
    }

    private static void stops() {
        Script.run("nothing there, at the first offset", """
            append(0, 0, 5, 0) = -100
            sync(0) throws IndexOutOfBoundsException
            client(0, 1) = 0
            """);
        Script.run("nothing in the last unit, something in the first", """
            append(0, 0, 5, 1) = -100
            sync(0) throws IndexOutOfBoundsException
            client(0, 1) = 0
            get(0, 0) = 0
            """);
        Script.run("nothing in the last of three units", """
            change(0, 0, 456) = 0
            append(0, 0, 5, 2) = -100
            sync(0) throws IndexOutOfBoundsException
            client(0, 1) = 0
            fill(0, 0) = 1
            sync(0) = 1
            """);
        Script.run("nothing there, further on: what was played stays", """
            append(0, 0, 5, 3) = 0
            append(0, 1, 6, 3) = 1
            append(0, 0, 7, 0) = -98
            append(0, 0, 8, 3) = 3
            sync(0) throws IndexOutOfBoundsException
            client(0, 1) = 2
            get(0, 0) = 5
            client(0, 2) = 1
            get(0, 1) = 6
            client(0, 3) = 2
            sync(0) throws IndexOutOfBoundsException
            client(0, 1) = 2
            """);
        Script.run("a trim at the first offset", """
            append(0, 0, 5, 3) = 0
            trim(0, 0) = 2
            sync(0) throws NoSuchElementException
            client(0, 1) = 0
            get(0, 0) = 0
            """);
        Script.run("a trim further on: what was played stays", """
            append(0, 0, 5, 3) = 0
            sync(0) = 1
            append(0, 0, 6, 3) = 1
            trim(0, 1) = 4
            sync(0) throws NoSuchElementException
            client(0, 1) = 1
            get(0, 0) = 5
            """);
        Script.run("the last unit is not up, further on: what was played stays", """
            append(0, 0, 5, 3) = 0
            append(0, 0, 6, 3) = 1
            append(0, 0, 7, 3) = 2
            up(3, false) = 0
            sync(0) throws IllegalStateException
            client(0, 1) = 1
            get(0, 0) = 5
            client(0, 2) = 1
            up(3, true) = 0
            sync(0) = 3
            """);
    }

    private static void order() {
        Script.run("not up comes before nothing there", """
            append(0, 0, 5, 0) = -100
            up(1, false) = 0
            sync(0) throws IllegalStateException
            """);
        Script.run("not up comes before a trim", """
            append(0, 0, 5, 3) = 0
            trim(0, 0) = 2
            up(1, false) = 0
            sync(0) throws IllegalStateException
            """);
        Script.run("a hole before a trimmed offset, and the other way round", """
            change(0, 0, 1) = 0
            change(0, 1, 2) = 0
            append(0, 0, 5, 0) = -100
            append(0, 0, 5, 1) = 1
            up(1, false) = 3
            sync(0) throws IndexOutOfBoundsException
            trim(0, 1) throws IllegalStateException
            sync(0) throws NoSuchElementException
            fill(0, 0) = 0
            """);
        Script.run("a trim before a hole", """
            append(0, 0, 5, 3) = 0
            append(0, 0, 5, 0) = -99
            trim(0, 0) = 2
            sync(0) throws NoSuchElementException
            """);
    }

    private static void entries() {
        Script.run("a put: the value, and the age is the position plus 1", """
            append(0, 0, 0, 3) = 0
            append(0, 3, 5, 3) = 1
            sync(1) = 2
            get(1, 0) = 0
            client(1, 2) = 1
            get(1, 3) = 5
            client(1, 5) = 2
            client(1, 3) = 0
            client(1, 4) = 0
            """);
        Script.run("junk changes no value and no age", """
            append(0, 0, 5, 3) = 0
            append(0, 0, 6, 0) = -99
            fill(0, 1) = 2
            sync(1) = 2
            get(1, 0) = 5
            client(1, 2) = 1
            client(1, 3) = 0
            """);
        Script.run("a commit that read nothing takes effect", """
            begin(0) = 0
            put(0, 0, 5) = 1
            append(1, 0, 6, 3) = 0
            commit(0) = true
            sync(2) = 2
            get(2, 0) = 5
            client(2, 2) = 2
            """);
        Script.run("a commit that read age 0 of registers that nobody put since", """
            begin(0) = 0
            see(0, 0) = 0
            see(0, 1) = 0
            see(0, 2) = 0
            see(0, 3) = 0
            put(0, 3, 5) = 1
            commit(0) = true
            sync(2) = 1
            get(2, 3) = 5
            client(2, 5) = 1
            """);
        for (int register = 0; register < 4; register++) {
            oneAgeOfFour(register);
        }
        Script.run("a commit puts all four registers at one age", """
            begin(0) = 0
            put(0, 0, 5) = 1
            put(0, 1, 6) = 2
            put(0, 2, 7) = 3
            put(0, 3, 8) = 4
            append(1, 0, 1, 3) = 0
            commit(0) = true
            sync(3) = 2
            get(3, 0) = 5
            get(3, 1) = 6
            get(3, 2) = 7
            get(3, 3) = 8
            client(3, 2) = 2
            client(3, 3) = 2
            client(3, 4) = 2
            client(3, 5) = 2
            """);
        Script.run("its own read register may be one that it puts", """
            append(1, 0, 1, 3) = 0
            sync(0) = 1
            begin(0) = 1
            see(0, 0) = 1
            put(0, 0, 2) = 1
            commit(0) = true
            begin(0) = 2
            see(0, 0) = 2
            put(0, 0, 3) = 1
            commit(0) = true
            get(0, 0) = 3
            client(0, 2) = 3
            """);
    }

    /** All four registers are read, and one of them is put by another client before the commit. */
    private static void oneAgeOfFour(int register) {
        Script.run("the age of register " + register + " alone is another", """
            begin(0) = 0
            see(0, 0) = 0
            see(0, 1) = 0
            see(0, 2) = 0
            see(0, 3) = 0
            put(0, 0, 5) = 1
            put(0, 3, 5) = 2
            append(1, %d, 0, 3) = 0
            commit(0) = false
            sync(2) = 2
            get(2, 0) = 0
            get(2, 3) = 0
            client(2, %d) = 1
            """.formatted(register, 2 + register));
    }

    private static void ends() {
        Script.run("the last offset: position and age are 60", "append(0, 0, 1, 3)\n".repeat(59) + """
            sync(1) = 59
            append(0, 3, 9, 3) = 59
            sync(1) = 60
            client(1, 1) = 60
            client(1, 2) = 59
            client(1, 5) = 60
            get(1, 3) = 9
            sync(1) = 60
            """);
        Script.run("the last unit of the chain that is installed now", """
            append(0, 0, 5, 3) = 0
            append(0, 0, 6, 3) = 1
            change(0, 0, 21) = 2
            up(1, false) = 2
            sync(0) = 2
            get(0, 0) = 6
            """);
    }
}
