/** Promise 1: a new object. */
public final class NewObjectTest {
    public static void main(String[] args) {
        sequencerAndSeals();
        clients();
        unitsAreUpAndEmpty();
        unitsAreUpOneByOne();
        chainsAtFirst();
        noTransaction();
        objectsAreApart();
        Script.end();
    }

    private static void sequencerAndSeals() {
        StringBuilder rows = new StringBuilder("count(0) = 1\ncount(1) = 1\ncount(2) = 0\ncount(3) = 0\n");
        for (int unit = 0; unit < 6; unit++) {
            rows.append("count(" + (4 + unit) + ") = 0\n");
        }
        Script.run("sequencer and seals at first", rows.toString());
    }

    private static void clients() {
        StringBuilder rows = new StringBuilder();
        for (int client = 0; client < 4; client++) {
            rows.append("client(" + client + ", 0) = 1\n");
            rows.append("client(" + client + ", 1) = 0\n");
            rows.append("client(" + client + ", 6) = 12\n");
            rows.append("client(" + client + ", 7) = 34\n");
            rows.append("client(" + client + ", 8) = 0\n");
            for (int register = 0; register < 4; register++) {
                rows.append("client(" + client + ", " + (2 + register) + ") = 0\n");
                rows.append("get(" + client + ", " + register + ") = 0\n");
            }
        }
        Script.run("clients at first", rows.toString());
    }

    private static void unitsAreUpAndEmpty() {
        StringBuilder rows = new StringBuilder();
        for (int unit = 0; unit < 6; unit++) {
            for (int offset = 0; offset < 60; offset++) {
                rows.append("look(" + unit + ", " + offset + ") = 0\n");
            }
        }
        rows.append("change(0, 0, 123) = 0\nchange(0, 1, 456) = 0\n");
        Script.run("units at first", rows.toString());
    }

    /** A row refuses a unit that is not up. */
    private static void unitsAreUpOneByOne() {
        for (int digit = 1; digit <= 6; digit++) {
            Script.run("unit " + (digit - 1) + " is up at first", "change(0, 0, " + digit + ") = 0");
        }
    }

    private static void chainsAtFirst() {
        for (int offset = 0; offset < 60; offset++) {
            int first = offset % 2 == 0 ? 0 : 2;
            StringBuilder rows = new StringBuilder("fill(0, " + offset + ") = 2\n");
            for (int unit = 0; unit < 6; unit++) {
                boolean inChain = unit == first || unit == first + 1;
                rows.append("look(" + unit + ", " + offset + ") = " + (inChain ? 3 : 0) + "\n");
            }
            rows.append("up(" + first + ", false) = 0\n");
            rows.append("read(0, " + offset + ") throws UnsupportedOperationException\n");
            Script.run("the chain of offset " + offset, rows.toString());
        }
    }

    private static void noTransaction() {
        for (int client = 0; client < 4; client++) {
            Script.run("client " + client + " has no transaction at first", """
                see(%1$d, 0) throws IllegalStateException
                put(%1$d, 0, 1) throws IllegalStateException
                commit(%1$d) throws IllegalStateException
                drop(%1$d) = -1
                begin(%1$d) = 0
                """.formatted(client));
        }
    }

    private static void objectsAreApart() {
        SharedLog used = new SharedLog();
        used.append(0, 0, 5, 3);
        used.sync(0);
        used.up(0, false);
        used.lose();
        Script.run("a second object is new", """
            count(2) = 0
            count(3) = 0
            look(0, 0) = 0
            client(0, 1) = 0
            append(0, 0, 1, 3) = 0
            """);
    }
}
