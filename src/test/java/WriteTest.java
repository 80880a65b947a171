/** Terms: "To WRITE an ENTRY at an OFFSET, at most so many UNITS: the UNITS of its CHAIN in order". */
public final class WriteTest {
    /** Unit 2 gets something at offset 1 that unit 3 misses; a change that unit 2 misses sets NEXT to 1. */
    private static final String LEFT_BEHIND = """
            up(3, true) = 0
            up(2, false) = 0
            change(0, 0, 12) = 1
            up(2, true) = 0
            count(2) = 1
            """;

    public static void main(String[] args) {
        for (int length = 1; length <= 3; length++) {
            for (int most = 0; most <= 3; most++) {
                atMost(length, most, 0);
                atMost(length, most, 1);
            }
        }
        somethingThere();
        inOrder();
        Script.end();
    }

    private static void atMost(int length, int most, int chain) {
        String title = most + " of " + length + " units of chain " + chain;
        StringBuilder rows = new StringBuilder();
        rows.append("change(0, " + chain + ", " + "456".substring(0, length) + ") = 0\n");
        if (chain == 1) {
            rows.append("append(0, 0, 8, 0) = -100\n");
        }
        int answer = length > most ? chain - 100 : chain;
        rows.append("append(0, 0, 7, " + most + ") = " + answer + "\n");
        for (int unit = 0; unit < 6; unit++) {
            boolean written = unit >= 3 && unit < 3 + Math.min(length, most);
            rows.append("look(" + unit + ", " + chain + ") = " + (written ? 1 : 0) + "\n");
        }
        rows.append("count(2) = " + (chain + 1));
        Script.run(title, rows.toString());
    }

    private static void somethingThere() {
        Script.run("a trim", """
            trim(0, 0) = 2
            append(0, 0, 5, 1) throws UnsupportedOperationException
            look(0, 0) = 4
            look(1, 0) = 4
            count(2) = 1
            """);
        Script.run("junk", """
            fill(0, 0) = 2
            append(0, 0, 5, 1) throws UnsupportedOperationException
            look(0, 0) = 3
            look(1, 0) = 3
            count(2) = 1
            """);
        Script.run("a put, which stays", """
            append(0, 0, 4, 3) = 0
            up(3, false) = 0
            append(0, 0, 5, 3) throws IllegalStateException
            """ + LEFT_BEHIND + """
            append(0, 0, 6, 3) throws UnsupportedOperationException
            look(2, 1) = 1
            look(3, 1) = 0
            fill(0, 1) = 1
            read(0, 1) = 5
            """);
        Script.run("a commit, which stays", """
            append(0, 0, 4, 3) = 0
            begin(0) = 0
            put(0, 0, 5) = 1
            put(0, 1, 5) = 2
            up(3, false) = 0
            commit(0) throws IllegalStateException
            """ + LEFT_BEHIND + """
            append(0, 0, 6, 3) throws UnsupportedOperationException
            look(2, 1) = 2
            look(3, 1) = 0
            fill(0, 1) = 1
            read(0, 1) = 2
            """);
        Script.run("commit: a trim", """
            begin(0) = 0
            put(0, 0, 5) = 1
            trim(0, 0) = 2
            commit(0) throws UnsupportedOperationException
            look(0, 0) = 4
            count(2) = 1
            """);
        Script.run("commit: junk", """
            begin(0) = 0
            put(0, 0, 5) = 1
            fill(0, 0) = 2
            commit(0) throws UnsupportedOperationException
            look(0, 0) = 3
            count(2) = 1
            """);
        Script.run("commit: a commit", """
            append(0, 0, 4, 3) = 0
            begin(0) = 0
            put(0, 0, 5) = 1
            up(3, false) = 0
            commit(0) throws IllegalStateException
            """ + LEFT_BEHIND + """
            put(0, 1, 5) = 2
            commit(0) throws UnsupportedOperationException
            fill(0, 1) = 1
            read(0, 1) = 1
            """);
        Script.run("something at the offset in another chain's unit does not matter", """
            change(0, 0, 3) = 0
            append(0, 0, 4, 3) = 0
            append(0, 0, 5, 3) = 1
            change(0, 0, 4) = 2
            look(2, 0) = 1
            look(3, 0) = 1
            append(0, 0, 6, 3) = 2
            append(0, 0, 7, 3) = 3
            """);
    }

    private static void inOrder() {
        Script.run("not up comes before something there", """
            fill(0, 0) = 2
            up(0, false) = 0
            append(0, 0, 5, 3) throws IllegalStateException
            """);
        Script.run("something in the first unit comes before the second one that is not up", """
            fill(0, 0) = 2
            up(1, false) = 0
            append(0, 0, 5, 3) throws UnsupportedOperationException
            """);
        Script.same("what the units before it have stays: one unit written", """
            up(1, false) = 0
            append(0, 0, 5, 3) throws IllegalStateException
            """, """
            append(0, 0, 5, 1) = -100
            """);
        Script.same("what the units before it have stays: two units written", """
            change(0, 0, 456) = 0
            up(5, false) = 2
            append(0, 0, 5, 3) throws IllegalStateException
            """, """
            change(0, 0, 456) = 0
            append(0, 0, 5, 2) = -100
            """);
        Script.same("the first unit throws: none is written", """
            up(0, false) = 0
            append(0, 0, 5, 3) throws IllegalStateException
            """, """
            append(0, 0, 5, 0) = -100
            """);
        Script.same("the first unit has something: none is written", """
            fill(0, 0) = 2
            append(0, 0, 5, 3) throws UnsupportedOperationException
            """, """
            fill(0, 0) = 2
            append(0, 0, 5, 0) = -100
            """);
        Script.run("what one unit got before something was thrown is the whole entry", """
            up(1, false) = 0
            append(2, 3, -8, 3) throws IllegalStateException
            up(1, true) = 0
            fill(0, 0) = 1
            sync(0) = 1
            get(0, 3) = -8
            client(0, 5) = 1
            """);
    }
}
