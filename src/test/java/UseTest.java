/** Terms: "To USE a UNIT by a CLIENT: it is not UP, or its SEAL is above the EPOCH ...". */
public final class UseTest {
    public static void main(String[] args) {
        notUp();
        sealAbove();
        sealNotAbove();
        notUsed();
        Script.end();
    }

    private static void notUp() {
        Script.run("append: the first unit is not up", """
            up(0, false) = 0
            append(0, 0, 5, 1) throws IllegalStateException
            up(0, true) = 0
            append(0, 0, 5, 1) = -99
            """);
        Script.run("append: the last unit is not up", """
            up(1, false) = 0
            append(0, 0, 5, 2) throws IllegalStateException
            """);
        Script.run("read: the last unit is not up", """
            append(0, 0, 5, 3) = 0
            up(1, false) = 0
            read(0, 0) throws IllegalStateException
            up(1, true) = 0
            read(0, 0) = 5
            """);
        Script.run("fill: the first, the middle and the last unit is not up", """
            change(0, 0, 123) = 0
            up(0, false) = 2
            fill(0, 0) throws IllegalStateException
            up(0, true) = 2
            up(1, false) = 2
            fill(0, 0) throws IllegalStateException
            up(1, true) = 2
            up(2, false) = 2
            fill(0, 0) throws IllegalStateException
            up(2, true) = 2
            fill(0, 0) = 1
            """);
        Script.run("trim: the first, the middle and the last unit is not up", """
            change(0, 0, 123) = 0
            up(0, false) = 2
            trim(0, 0) throws IllegalStateException
            up(0, true) = 2
            up(1, false) = 2
            trim(0, 0) throws IllegalStateException
            up(1, true) = 2
            up(2, false) = 2
            trim(0, 0) throws IllegalStateException
            up(2, true) = 2
            trim(0, 0) = 1
            """);
        Script.run("sync: the last unit is not up", """
            append(0, 0, 5, 3) = 0
            up(1, false) = 0
            sync(0) throws IllegalStateException
            up(1, true) = 0
            sync(0) = 1
            """);
        Script.run("commit: a unit that it writes is not up", """
            begin(0) = 0
            put(0, 0, 5) = 1
            up(0, false) = 0
            commit(0) throws IllegalStateException
            up(0, true) = 0
            up(3, false) = 0
            commit(0) throws IllegalStateException
            """);
        Script.run("commit: a unit that it plays is not up", """
            append(0, 0, 5, 3) = 0
            begin(0) = 0
            put(0, 0, 5) = 1
            up(1, false) = 0
            commit(0) throws IllegalStateException
            look(3, 1) = 2
            client(0, 1) = 0
            """);
    }

    /** Only with an old layout, and append, sync and commit refuse that one before they use a unit. */
    private static void sealAbove() {
        Script.run("read: a seal above the epoch, by one and by two", """
            append(0, 0, 5, 3) = 0
            change(0, 1, 34) = 1
            count(5) = 2
            client(1, 0) = 1
            read(1, 0) throws IllegalStateException
            change(0, 1, 34) = 1
            count(5) = 3
            read(1, 0) throws IllegalStateException
            learn(1) = 3
            read(1, 0) = 5
            """);
        Script.run("fill: a seal above the epoch, of the first and of the last unit", """
            up(3, false) = 0
            change(0, 0, 12) = 0
            up(3, true) = 0
            count(6) = 2
            count(7) = 0
            fill(1, 1) throws IllegalStateException
            look(2, 1) = 0
            up(2, false) = 2
            fill(1, 1) throws IllegalStateException
            change(0, 0, 12) = 0
            count(6) = 2
            count(7) = 3
            up(2, true) = 2
            learn(1) = 3
            change(0, 0, 12) = 0
            fill(1, 1) throws IllegalStateException
            """);
        Script.run("fill: the first unit is used, the last one is sealed", """
            up(2, false) = 0
            change(0, 0, 12) = 0
            up(2, true) = 0
            fill(1, 1) throws IllegalStateException
            look(2, 1) = 3
            look(3, 1) = 0
            """);
        Script.run("trim: a seal above the epoch", """
            change(0, 1, 34) = 0
            trim(1, 0) throws IllegalStateException
            look(0, 0) = 0
            look(1, 0) = 0
            learn(1) = 2
            trim(1, 0) = 2
            """);
        Script.run("trim: the first unit is used, the last one is sealed", """
            up(0, false) = 0
            change(0, 1, 34) = 0
            up(0, true) = 0
            trim(1, 0) throws IllegalStateException
            look(0, 0) = 4
            look(1, 0) = 0
            """);
    }

    private static void sealNotAbove() {
        Script.run("a seal as great as the epoch", """
            change(0, 0, 12) = 0
            change(0, 1, 34) = 0
            count(4) = 3
            count(7) = 3
            client(0, 0) = 3
            append(0, 0, 5, 3) = 0
            read(0, 0) = 5
            fill(0, 1) = 2
            sync(0) = 1
            begin(0) = 1
            put(0, 0, 6) = 1
            commit(0) throws UnsupportedOperationException
            commit(0) = true
            trim(0, 1) = 4
            """);
        Script.run("seals below the epoch", """
            append(0, 0, 4, 3) = 0
            append(0, 0, 5, 3) = 1
            up(1, false) = 0
            up(3, false) = 0
            change(0, 0, 1) = 2
            up(3, true) = 0
            count(7) = 0
            client(0, 0) = 2
            read(0, 1) = 5
            fill(0, 3) = 2
            sync(0) = 2
            append(0, 0, 6, 3) = 2
            trim(0, 1) = 3
            """);
    }

    private static void notUsed() {
        Script.run("the units of the other chain are not used", """
            append(0, 0, 5, 3) = 0
            up(2, false) = 0
            up(3, false) = 0
            read(0, 0) = 5
            fill(0, 0) = 0
            sync(0) = 1
            trim(0, 0) = 2
            """);
        Script.run("units of no chain are not used", """
            up(4, false) = 0
            up(5, false) = 0
            append(0, 0, 5, 3) = 0
            append(0, 0, 5, 3) = 1
            read(0, 1) = 5
            fill(0, 2) = 2
            sync(0) = 2
            trim(0, 59) = 120
            """);
        Script.run("append: units behind the most are not used", """
            up(1, false) = 0
            append(0, 0, 5, 1) = -100
            up(2, false) = 0
            up(3, false) = 0
            append(0, 0, 5, 0) = -99
            """);
        Script.run("read and sync: units before the last are not used", """
            append(0, 0, 5, 3) = 0
            up(0, false) = 0
            read(0, 0) = 5
            sync(0) = 1
            """);
        Script.run("these calls use no unit and ask no sequencer", """
            up(0, false) = 0
            up(1, false) = 0
            up(2, false) = 0
            up(3, false) = 0
            lose() = 0
            learn(0) = 1
            get(0, 0) = 0
            begin(0) = 0
            see(0, 0) = 0
            put(0, 0, 1) = 1
            drop(0) = 1
            begin(0) = 0
            see(0, 0) = 0
            commit(0) = true
            look(0, 0) = 0
            client(0, 8) = 0
            count(2) = 0
            """);
    }
}
