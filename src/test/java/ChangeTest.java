/** Promise 7: change. */
public final class ChangeTest {
    /** Something written, a transaction and a lost sequencer: a refused change leaves all that as it is. */
    private static final String BUSY = """
            append(0, 0, 5, 1) = -100
            append(0, 0, 6, 3) = 1
            begin(0) = 0
            put(0, 0, 1) = 1
            lose() = 2
            """;

    public static void main(String[] args) {
        arguments();
        refusals();
        seals();
        merging();
        next();
        refusedWithoutATrace();
        upUnits();
        sealEdges();
        mergeEdges();
        nextEdges();
        asManyAsAnObjectIsMadeFor();
        Script.end();
    }

    private static void arguments() {
        Script.refuse("numbers out of range, before anything else", "up(0, false)\nup(1, false)\nup(5, false)",
            "change(-1, 0, 1)", "change(4, 0, 1)", "change(0, -1, 1)", "change(0, 2, 1)",
            "change(0, 0, 0)", "change(0, 0, -1)", "change(0, 0, -12)", "change(0, 0, 7)", "change(0, 0, 8)",
            "change(0, 0, 9)", "change(0, 0, 10)", "change(0, 0, 17)", "change(0, 0, 71)", "change(0, 0, 11)",
            "change(0, 0, 66)", "change(0, 0, 112)", "change(0, 0, 121)", "change(0, 0, 211)", "change(0, 0, 102)",
            "change(0, 0, 120)", "change(0, 0, 172)", "change(0, 0, 666)", "change(0, 0, 1234)", "change(0, 0, 1023)",
            "change(0, 0, 2147483647)", "change(0, 0, -2147483648)", "change(0, 1, 0)");
        Script.run("a refused change does nothing", """
            change(0, 0, 112) throws IllegalArgumentException
            count(0) = 1
            count(4) = 0
            """);
        Script.run("rows of each length, in their order", """
            change(0, 0, 6) = 0
            client(0, 6) = 6
            change(0, 1, 61) = 0
            client(0, 7) = 61
            change(0, 0, 654) = 0
            client(0, 6) = 654
            change(0, 1, 123) = 0
            client(0, 7) = 123
            count(0) = 5
            append(0, 0, 1, 1) = -100
            look(5, 0) = 1
            look(4, 0) = 0
            """);
    }

    private static void refusals() {
        Script.run("an old layout", """
            change(0, 0, 12) = 0
            change(1, 0, 12) throws IllegalStateException
            count(0) = 2
            learn(1) = 2
            change(1, 0, 12) = 0
            change(0, 0, 12) throws IllegalStateException
            """);
        Script.run("a unit of the row is not up", """
            up(5, false) = 0
            change(0, 0, 6) throws IllegalStateException
            change(0, 0, 156) throws IllegalStateException
            count(0) = 1
            count(4) = 0
            client(0, 0) = 1
            lose() = 0
            change(0, 0, 561) throws IllegalStateException
            count(3) = 1
            """);
        Script.run("no unit of the chain is up", """
            up(0, false) = 0
            up(1, false) = 0
            change(0, 0, 56) throws IllegalStateException
            up(1, true) = 0
            change(0, 0, 56) = 0
            """);
        Script.run("no unit of the other chain is up", """
            up(2, false) = 0
            up(3, false) = 0
            change(0, 0, 12) throws IllegalStateException
            count(0) = 1
            up(3, true) = 0
            change(0, 0, 12) = 0
            """);
    }

    private static void seals() {
        Script.run("the up units of the old chains and of the new one", """
            up(1, false) = 0
            up(2, false) = 0
            change(0, 1, 65) = 0
            count(4) = 2
            count(5) = 0
            count(6) = 0
            count(7) = 2
            count(8) = 2
            count(9) = 2
            up(1, true) = 0
            change(0, 0, 1) = 0
            count(4) = 3
            count(5) = 3
            count(6) = 0
            count(7) = 2
            count(8) = 3
            count(9) = 3
            """);
        Script.run("a sealed unit is not used with an old layout", """
            append(0, 0, 5, 3) = 0
            change(0, 1, 34) = 1
            read(1, 0) throws IllegalStateException
            fill(1, 0) throws IllegalStateException
            trim(1, 0) throws IllegalStateException
            learn(1) = 2
            read(1, 0) = 5
            """);
    }

    private static void merging() {
        Script.run("what a unit has goes on, even if only one unit has it", """
            append(0, 0, 5, 1) = -100
            append(0, 0, 6, 3) = 1
            append(0, 0, 7, 3) = 2
            change(0, 0, 516) = 3
            look(4, 0) = 1
            look(0, 0) = 1
            look(5, 0) = 1
            look(4, 2) = 1
            look(4, 1) = 0
            look(1, 0) = 0
            read(0, 0) = 5
            read(0, 2) = 7
            sync(0) = 3
            """);
        Script.run("the first up unit that has something decides", """
            append(0, 0, 5, 3) = 0
            append(0, 0, 6, 0) = -99
            up(1, false) = 0
            trim(0, 0) throws IllegalStateException
            up(1, true) = 0
            look(0, 0) = 4
            look(1, 0) = 1
            change(0, 0, 21) = 1
            look(1, 0) = 4
            """);
        Script.run("a first unit that is not up does not decide", """
            append(0, 0, 5, 3) = 0
            up(1, false) = 0
            trim(0, 0) throws IllegalStateException
            up(1, true) = 0
            up(0, false) = 0
            change(0, 0, 52) = 1
            look(4, 0) = 1
            look(1, 0) = 1
            look(0, 0) = 4
            read(0, 0) = 5
            """);
        Script.run("a first unit that has nothing does not decide", """
            up(0, false) = 0
            change(0, 0, 2) = 0
            append(0, 0, 5, 3) = 0
            append(0, 0, 6, 3) = 1
            up(0, true) = 0
            change(0, 0, 12) = 2
            look(0, 0) = 1
            up(3, false) = 3
            up(2, true) = 3
            change(0, 1, 3) = 2
            read(0, 1) = 6
            """);
        Script.run("nothing is merged too: what a new unit had there is gone", """
            append(0, 0, 5, 3) = 0
            up(1, false) = 0
            append(0, 0, 6, 3) = 1
            append(0, 0, 7, 3) throws IllegalStateException
            look(0, 2) = 1
            up(0, false) = 0
            up(1, true) = 0
            change(0, 0, 2) = 2
            up(0, true) = 0
            look(0, 2) = 1
            change(0, 0, 21) = 2
            look(0, 2) = 0
            look(0, 0) = 1
            append(0, 0, 8, 3) = 2
            read(0, 2) = 8
            """);
        Script.run("offsets of the other chain stay as they were", """
            append(0, 0, 5, 3) = 0
            append(0, 0, 6, 3) = 1
            change(0, 0, 35) = 2
            look(2, 0) = 1
            look(2, 1) = 1
            look(4, 1) = 0
            change(0, 1, 15) = 2
            look(0, 0) = 1
            look(0, 1) = 1
            look(4, 0) = 1
            look(2, 1) = 1
            read(0, 0) = 5
            read(0, 1) = 6
            """);
        Script.run("the last offsets of both chains", """
            fill(0, 58) = 2
            fill(0, 59) = 2
            change(0, 0, 5) = 60
            look(4, 58) = 3
            change(0, 1, 6) = 60
            look(5, 59) = 3
            """);
    }

    private static void next() {
        Script.run("behind the greatest offset that has something, whatever it is", """
            append(0, 0, 5, 0) = -100
            append(0, 0, 5, 0) = -99
            append(0, 0, 5, 0) = -98
            change(0, 0, 12) = 0
            append(0, 0, 5, 1) = -100
            append(0, 0, 5, 0) = -99
            change(0, 1, 34) = 1
            fill(0, 7) = 2
            change(0, 1, 34) = 8
            trim(0, 10) = 22
            change(0, 0, 12) = 11
            count(2) = 11
            """);
        Script.run("only up units of the chain of the offset count", """
            fill(0, 3) = 2
            up(3, false) = 0
            fill(0, 5) throws IllegalStateException
            up(3, true) = 0
            up(2, false) = 0
            change(0, 0, 12) = 4
            up(2, true) = 0
            change(0, 0, 12) = 6
            """);
        Script.run("the chains as they are installed then", """
            fill(0, 4) = 2
            change(0, 0, 56) = 5
            fill(0, 6) = 2
            change(0, 0, 12) = 7
            look(0, 6) = 3
            append(0, 0, 1, 3) = 7
            """);
        Script.run("the sequencer is there again, and the client knows the layout", """
            append(0, 0, 5, 3) = 0
            lose() = 1
            change(2, 0, 56) = 1
            count(3) = 0
            count(1) = 2
            count(0) = 2
            client(2, 0) = 2
            client(2, 1) = 0
            client(0, 0) = 1
            append(2, 1, 3, 3) = 1
            append(0, 1, 3, 3) throws IllegalStateException
            sync(2) = 2
            """);
    }

    private static void refusedWithoutATrace() {
        String oldLayout = BUSY + "change(1, 1, 34) = 2\nlose() = 2\n";
        Script.same("an old layout", oldLayout + """
            change(0, 0, 56) throws IllegalStateException
            change(0, 1, 56) throws IllegalStateException
            """, oldLayout);
        Script.same("a unit of the row is not up", BUSY + """
            up(5, false) = 0
            change(0, 0, 56) throws IllegalStateException
            change(0, 1, 6) throws IllegalStateException
            """, BUSY);
        Script.same("no unit of chain 0 is up", BUSY + """
            up(0, false) = 0
            up(1, false) = 0
            change(0, 0, 56) throws IllegalStateException
            change(0, 1, 56) throws IllegalStateException
            """, BUSY);
        Script.same("no unit of chain 1 is up", BUSY + """
            up(2, false) = 0
            up(3, false) = 0
            change(0, 0, 56) throws IllegalStateException
            change(0, 1, 56) throws IllegalStateException
            """, BUSY);
        Script.same("a number out of range", BUSY + """
            change(0, 0, 0) throws IllegalArgumentException
            change(0, 2, 56) throws IllegalArgumentException
            change(0, -1, 56) throws IllegalArgumentException
            change(4, 0, 56) throws IllegalArgumentException
            """, BUSY);
    }

    private static void upUnits() {
        Script.run("the first, the middle and the last unit of the row is not up", """
            up(3, false) = 0
            change(0, 0, 456) throws IllegalStateException
            up(3, true) = 0
            up(4, false) = 0
            change(0, 0, 456) throws IllegalStateException
            up(4, true) = 0
            up(5, false) = 0
            change(0, 0, 456) throws IllegalStateException
            up(5, true) = 0
            change(0, 0, 456) = 0
            """);
        Script.run("a unit of the row that was in the chain before is not up", """
            up(1, false) = 0
            change(0, 0, 12) throws IllegalStateException
            change(0, 0, 21) throws IllegalStateException
            change(0, 0, 2) throws IllegalStateException
            change(0, 0, 1) = 0
            """);
        Script.run("chain 0: none up, the last one up, the first one up", """
            up(0, false) = 0
            up(1, false) = 0
            change(0, 0, 6) throws IllegalStateException
            change(0, 1, 6) throws IllegalStateException
            up(1, true) = 0
            change(0, 1, 6) = 0
            up(0, true) = 0
            up(1, false) = 2
            change(0, 0, 6) = 0
            """);
        Script.run("chain 1: none up, the last one up, the first one up", """
            up(2, false) = 0
            up(3, false) = 0
            change(0, 0, 6) throws IllegalStateException
            change(0, 1, 6) throws IllegalStateException
            up(3, true) = 0
            change(0, 0, 6) = 0
            up(2, true) = 0
            up(3, false) = 2
            change(0, 1, 6) = 0
            """);
        Script.run("an old chain of three: none up, the middle one up", """
            change(0, 0, 456) = 0
            append(0, 0, 5, 3) = 0
            up(3, false) = 2
            up(4, false) = 2
            up(5, false) = 2
            change(0, 0, 12) throws IllegalStateException
            up(4, true) = 2
            change(0, 0, 12) = 1
            read(0, 0) = 5
            """);
        Script.run("an old chain of one unit that is not up", """
            change(0, 0, 6) = 0
            up(5, false) = 2
            change(0, 0, 12) throws IllegalStateException
            change(0, 1, 34) throws IllegalStateException
            up(5, true) = 2
            change(0, 0, 12) = 0
            """);
        Script.run("units of neither the row nor an old chain need not be up", """
            up(4, false) = 0
            up(5, false) = 0
            change(0, 0, 21) = 0
            """);
        Script.run("the sequencer need not be there", """
            lose() = 0
            change(0, 0, 12) = 0
            count(3) = 0
            """);
        Script.run("the last client, and one unit in both chains", """
            change(3, 0, 1) = 0
            change(3, 1, 1) = 0
            append(3, 0, 5, 3) = 0
            append(3, 0, 6, 3) = 1
            look(0, 0) = 1
            look(0, 1) = 1
            read(3, 0) = 5
            read(3, 1) = 6
            up(0, false) = 3
            change(3, 0, 2) throws IllegalStateException
            """);
    }

    private static void sealEdges() {
        Script.run("units of the old chains that leave them are sealed too", """
            change(0, 0, 56) = 0
            count(4) = 2
            count(5) = 2
            change(0, 0, 56) = 0
            count(4) = 2
            count(5) = 2
            count(8) = 3
            """);
        Script.run("a unit in no chain, and one that is not up, get no seal", """
            up(0, false) = 0
            change(0, 0, 5) = 0
            count(4) = 0
            count(5) = 2
            count(8) = 2
            count(9) = 0
            """);
        Script.run("a unit that was not up gets its seal at the next change", """
            up(3, false) = 0
            change(0, 0, 12) = 0
            change(0, 0, 12) = 0
            up(3, true) = 0
            count(6) = 3
            change(0, 0, 12) = 0
            count(7) = 4
            """);
        Script.run("an old chain that no longer is one gets no seal", """
            change(0, 0, 56) = 0
            change(0, 1, 56) = 0
            count(4) = 2
            count(6) = 3
            change(0, 0, 5) = 0
            count(4) = 2
            count(6) = 3
            count(8) = 4
            count(9) = 4
            """);
    }

    private static void mergeEdges() {
        Script.run("each kind is merged as it is", """
            append(0, 0, 5, 3) = 0
            append(0, 0, 6, 0) = -99
            fill(0, 1) = 2
            begin(0) = 0
            put(0, 1, 7) = 1
            put(0, 3, 8) = 2
            commit(0) = true
            fill(0, 4) = 2
            change(0, 0, 5) = 5
            look(4, 0) = 1
            look(4, 2) = 2
            look(4, 4) = 3
            look(4, 6) = 0
            read(0, 0) = 5
            read(0, 2) = 2
            trim(0, 0) = 1
            change(0, 0, 6) = 5
            look(5, 0) = 4
            look(5, 2) = 2
            sync(1) throws IllegalStateException
            """);
        Script.run("an entry of the last unit alone, because the first one is not up", """
            append(0, 0, 5, 3) = 0
            up(0, false) = 0
            change(0, 0, 56) = 1
            look(4, 0) = 1
            look(5, 0) = 1
            look(0, 0) = 1
            """);
        Script.run("nothing on the units that are up: it is nothing for the new ones", """
            up(1, false) = 0
            append(0, 0, 5, 3) throws IllegalStateException
            look(0, 0) = 1
            up(0, false) = 0
            up(1, true) = 0
            change(0, 0, 56) = 0
            look(4, 0) = 0
            look(5, 0) = 0
            look(0, 0) = 1
            count(2) = 0
            """);
        Script.run("what a new unit had from an older layout is gone at this chain's offsets", """
            fill(0, 0) = 2
            fill(0, 2) = 2
            up(1, false) = 0
            fill(0, 4) throws IllegalStateException
            up(0, false) = 0
            up(1, true) = 0
            change(0, 0, 2) = 3
            up(0, true) = 0
            look(0, 4) = 3
            change(0, 0, 1) = 3
            look(0, 0) = 3
            look(0, 2) = 3
            look(0, 4) = 0
            """);
        Script.run("what a new unit has at the other chain's offsets stays, though it is no part of that chain", """
            fill(0, 1) = 2
            fill(0, 59) = 2
            change(0, 1, 56) = 60
            change(0, 0, 34) = 60
            look(2, 1) = 3
            look(3, 59) = 3
            look(2, 0) = 0
            look(3, 58) = 0
            """);
        Script.run("units that leave the chain keep what they have", """
            append(0, 0, 5, 3) = 0
            change(0, 0, 56) = 1
            look(0, 0) = 1
            look(1, 0) = 1
            """);
        Script.run("positions, registers and transactions of the clients stay", """
            append(0, 0, 5, 3) = 0
            sync(0) = 1
            begin(0) = 1
            see(0, 0) = 5
            put(0, 1, 6) = 1
            change(0, 0, 56) = 1
            client(0, 1) = 1
            client(0, 2) = 1
            client(0, 8) = 1
            get(0, 0) = 5
            commit(0) = true
            read(0, 1) = 1
            """);
    }

    private static void asManyAsAnObjectIsMadeFor() {
        Script.run("an epoch for each change", "change(0, 0, 12) = 0\n".repeat(508) + """
            count(0) = 509
            count(1) = 509
            count(7) = 509
            client(0, 0) = 509
            """);
    }

    private static void nextEdges() {
        Script.run("nothing anywhere: 0, whatever was taken", "append(0, 0, 1, 0)\n".repeat(60) + """
            count(2) = 60
            change(0, 0, 12) = 0
            count(2) = 0
            append(0, 0, 5, 3) = 0
            """);
        Script.run("something at offset 0 alone, and at offset 1 alone", """
            fill(0, 0) = 2
            change(0, 1, 34) = 1
            fill(0, 1) = 2
            change(0, 0, 12) = 2
            """);
        Script.run("something at offset 59: 60, and no token is left", """
            fill(0, 59) = 2
            change(0, 0, 12) = 60
            append(0, 0, 5, 3) throws IndexOutOfBoundsException
            """);
        Script.run("something at offset 58: 59, and one token is left", """
            fill(0, 58) = 2
            change(0, 1, 34) = 59
            append(0, 0, 5, 3) = 59
            append(0, 0, 5, 3) throws IndexOutOfBoundsException
            """);
        Script.run("a trim counts as something", """
            trim(0, 2) = 6
            change(0, 0, 12) = 3
            """);
        Script.run("units of no chain do not count", """
            fill(0, 2) = 2
            up(1, false) = 0
            fill(0, 6) throws IllegalStateException
            up(0, false) = 0
            up(1, true) = 0
            change(0, 0, 2) = 3
            up(0, true) = 0
            look(0, 6) = 3
            change(0, 1, 34) = 3
            """);
        Script.run("a unit counts at the offsets of its own chain alone", """
            fill(0, 8) = 2
            change(0, 0, 5) = 9
            up(4, false) = 2
            up(4, true) = 2
            change(0, 1, 1) = 9
            trim(0, 8) = 9
            look(0, 8) = 3
            change(0, 0, 6) = 9
            look(0, 8) = 3
            """);
        Script.run("something at an offset of the other chain does not count", """
            up(2, false) = 0
            change(0, 1, 4) = 0
            up(2, true) = 0
            fill(1, 1) throws IllegalStateException
            look(2, 1) = 3
            change(0, 0, 3) = 0
            look(2, 1) = 3
            """);
        Script.run("a unit of the chain that is not up does not count, until it is up at the next change", """
            up(3, false) = 0
            fill(0, 7) throws IllegalStateException
            up(3, true) = 0
            up(2, false) = 0
            change(0, 0, 12) = 0
            up(2, true) = 0
            change(0, 0, 12) = 8
            """);
    }
}
