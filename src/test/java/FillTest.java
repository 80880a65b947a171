/** Promise 4: fill. */
public final class FillTest {
    public static void main(String[] args) {
        Script.run("nothing anywhere: junk", """
            fill(0, 59) = 2
            look(2, 59) = 3
            look(3, 59) = 3
            look(0, 59) = 0
            fill(1, 59) = 0
            count(2) = 0
            """);
        Script.run("what the first unit has goes on to the others", """
            change(0, 0, 123) = 0
            append(0, 1, 9, 1) = -100
            fill(1, 0) throws IllegalStateException
            fill(0, 0) = 2
            look(0, 0) = 1
            look(1, 0) = 1
            look(2, 0) = 1
            read(0, 0) = 9
            """);
        Script.run("a commit goes on whole", """
            append(0, 0, 1, 3) = 0
            sync(0) = 1
            begin(0) = 1
            see(0, 0) = 1
            put(0, 1, 5) = 1
            put(0, 2, 6) = 2
            up(3, false) = 0
            commit(0) throws IllegalStateException
            up(3, true) = 0
            fill(0, 1) = 1
            look(3, 1) = 2
            read(1, 1) = 2
            sync(1) = 2
            get(1, 1) = 5
            get(1, 2) = 6
            """);
        Script.run("a trim goes on too", """
            up(1, false) = 0
            trim(0, 0) throws IllegalStateException
            up(1, true) = 0
            fill(0, 0) = 1
            look(1, 0) = 4
            """);
        Script.run("only units that have nothing get something", """
            up(3, false) = 0
            append(0, 0, 1, 3) = 0
            fill(0, 1) throws IllegalStateException
            look(2, 1) = 3
            look(3, 1) = 0
            up(3, true) = 0
            fill(0, 1) = 1
            look(3, 1) = 3
            """);
        Script.run("the first one has nothing, the second one has: junk for the first", """
            fill(0, 0) = 2
            up(0, false) = 0
            change(0, 0, 2) = 1
            up(0, true) = 0
            append(0, 0, 3, 3) = 1
            append(0, 0, 4, 3) = 2
            look(0, 2) = 0
            fill(1, 2) throws IllegalStateException
            look(0, 2) = 3
            look(1, 2) = 1
            """);
        Script.run("units that are not up, in order", """
            up(0, false) = 0
            fill(0, 0) throws IllegalStateException
            look(1, 0) = 0
            up(0, true) = 0
            up(1, false) = 0
            fill(0, 0) throws IllegalStateException
            look(0, 0) = 3
            fill(0, 0) throws IllegalStateException
            """);
        Script.run("full units are used all the same", """
            fill(0, 1) = 2
            up(3, false) = 0
            fill(0, 1) throws IllegalStateException
            """);
        Script.run("no sequencer is asked", """
            lose() = 0
            fill(0, 0) = 2
            """);
        Script.refuse("numbers out of range, before anything else", "up(0, false)\nup(2, false)",
            "fill(-1, 0)", "fill(4, 0)", "fill(0, -1)", "fill(0, 60)");
        edges();
        Script.end();
    }

    private static void edges() {
        Script.run("the least and the greatest offset, for the first and the last client", """
            fill(0, 0) = 2
            fill(3, 0) = 0
            fill(3, 59) = 2
            fill(0, 59) = 0
            fill(3, 58) = 2
            look(0, 0) = 3
            look(1, 58) = 3
            look(3, 59) = 3
            """);
        Script.run("a chain of one unit: 1 or 0", """
            change(0, 0, 6) = 0
            fill(0, 0) = 1
            look(5, 0) = 3
            fill(0, 0) = 0
            """);
        Script.run("a chain of three units: 3, 2, 1 and 0", """
            change(0, 0, 456) = 0
            fill(0, 58) = 3
            append(0, 0, 5, 1) = -100
            fill(0, 0) = 2
            append(0, 0, 5, 0) = -99
            append(0, 0, 5, 2) = -98
            fill(0, 2) = 1
            append(0, 0, 5, 0) = -97
            append(0, 0, 5, 3) = 4
            fill(0, 4) = 0
            look(3, 58) = 3
            look(5, 0) = 1
            look(5, 2) = 1
            """);
        Script.run("junk of the first unit goes on", """
            up(1, false) = 0
            fill(0, 0) throws IllegalStateException
            look(0, 0) = 3
            up(1, true) = 0
            fill(0, 0) = 1
            look(1, 0) = 3
            read(0, 0) throws UnsupportedOperationException
            """);
        Script.run("a trim of the first unit leaves what the others have", """
            append(0, 0, 5, 3) = 0
            up(1, false) = 0
            trim(0, 0) throws IllegalStateException
            up(1, true) = 0
            fill(0, 0) = 0
            look(0, 0) = 4
            look(1, 0) = 1
            read(0, 0) = 5
            """);
        Script.same("what the units before one that is not up got stays", """
            change(0, 0, 456) = 0
            append(0, 0, 5, 1) = -100
            up(5, false) = 2
            fill(0, 0) throws IllegalStateException
            """, """
            change(0, 0, 456) = 0
            append(0, 0, 5, 2) = -100
            """);
        Script.same("the first unit is not up: nothing is done", """
            up(0, false) = 0
            fill(0, 0) throws IllegalStateException
            """, "");
        Script.same("a sealed first unit: nothing is done", """
            change(1, 0, 12) = 0
            fill(0, 0) throws IllegalStateException
            """, "change(1, 0, 12) = 0");
        Script.run("filled by one client, played by the others: the value and not the filler's", """
            append(0, 3, 8, 1) = -100
            fill(2, 0) = 1
            sync(1) = 1
            get(1, 3) = 8
            client(1, 5) = 1
            get(2, 3) = 0
            client(2, 1) = 0
            """);
    }
}
