import java.util.List;

/**
 * "IllegalArgumentException: a number out of range", before anything else: for every number of
 * every call the ones just outside its range, the far ones, and the least and the greatest inside.
 */
public final class RangeTest {
    /** A number without a range: the value that the calls here have for it. */
    private record Number(String usual, int least, int greatest, boolean ranged) {
        static Number from(int least, int greatest) {
            return new Number(String.valueOf(least), least, greatest, true);
        }

        static Number free(String usual) {
            return new Number(usual, 0, 0, false);
        }
    }

    private record Call(String name, Number... numbers) {
        String with(int place, int number) {
            String[] texts = new String[numbers.length];
            for (int i = 0; i < numbers.length; i++) {
                texts[i] = i == place ? String.valueOf(number) : numbers[i].usual;
            }
            return name + "(" + String.join(", ", texts) + ")";
        }
    }

    private static final Number CLIENT = Number.from(0, 3);
    private static final Number REGISTER = Number.from(0, 3);
    private static final Number OFFSET = Number.from(0, 59);
    private static final Number UNIT = Number.from(0, 5);
    private static final Number VALUE = Number.free("5");

    private static final List<Call> CALLS = List.of(
        new Call("append", CLIENT, REGISTER, VALUE, Number.from(0, 3)),
        new Call("read", CLIENT, OFFSET),
        new Call("fill", CLIENT, OFFSET),
        new Call("trim", CLIENT, OFFSET),
        new Call("learn", CLIENT),
        new Call("change", CLIENT, Number.from(0, 1), Number.free("5")),
        new Call("up", UNIT, Number.free("false")),
        new Call("sync", CLIENT),
        new Call("get", CLIENT, REGISTER),
        new Call("begin", CLIENT),
        new Call("see", CLIENT, REGISTER),
        new Call("put", CLIENT, REGISTER, VALUE),
        new Call("commit", CLIENT),
        new Call("drop", CLIENT),
        new Call("look", UNIT, OFFSET),
        new Call("client", CLIENT, Number.from(0, 8)),
        new Call("count", Number.from(0, 9)));

    /** Here the calls throw something else if their numbers are in range. */
    private static final String TROUBLE = """
        lose() = 0
        up(0, false) = 0
        up(1, false) = 0
        up(2, false) = 0
        up(3, false) = 0
        up(4, false) = 0
        """;

    /** Here they are allowed to do what they do. */
    private static final String EASE = """
        append(0, 0, 5, 3) = 0
        fill(0, 59) = 2
        begin(0) = 0
        put(0, 1, 6) = 1
        """;

    public static void main(String[] args) {
        for (Call call : CALLS) {
            for (int place = 0; place < call.numbers.length; place++) {
                if (call.numbers[place].ranged) {
                    outside(call, place);
                    inside(call, place);
                }
            }
        }
        allOutside();
        anyValue();
        Script.end();
    }

    private static void outside(Call call, int place) {
        Number number = call.numbers[place];
        int[] tried = {number.least - 1, number.greatest + 1, Integer.MIN_VALUE, Integer.MAX_VALUE, -number.greatest,
            number.greatest + 256, number.greatest + 65536};
        for (int one : tried) {
            String row = call.with(place, one) + " throws IllegalArgumentException\n";
            Script.same("out of range, in trouble", TROUBLE + row, TROUBLE);
            Script.same("out of range, at ease", EASE + row, EASE);
        }
    }

    private static void inside(Call call, int place) {
        for (int one : new int[] {call.numbers[place].least, call.numbers[place].greatest}) {
            String row = call.with(place, one);
            Script.mustNot("in range", "IllegalArgumentException", "", row);
            Script.mustNot("in range, in trouble", "IllegalArgumentException", TROUBLE, row);
        }
    }

    private static void allOutside() {
        Script.refuse("every number is out of range", TROUBLE,
            "append(4, 4, 0, 4)", "append(-1, -1, 0, -1)", "read(4, 60)", "read(-1, -1)", "fill(4, 60)",
            "fill(-1, -1)", "trim(4, 60)", "trim(-1, -1)", "change(4, 2, 7)", "change(-1, -1, 0)", "get(4, 4)",
            "get(-1, -1)", "see(4, 4)", "see(-1, -1)", "put(4, 4, 0)", "put(-1, -1, 0)", "look(6, 60)",
            "look(-1, -1)", "client(4, 9)", "client(-1, -1)");
    }

    private static void anyValue() {
        Script.run("a value has no range", """
            append(0, 0, -2147483648, 3) = 0
            append(0, 1, 2147483647, 3) = 1
            append(0, 2, -1, 3) = 2
            append(0, 3, 0, 3) = 3
            begin(1) = 0
            put(1, 0, 2147483647) = 1
            put(1, 1, -2147483648) = 2
            put(1, 2, 0) = 3
            put(1, 3, -1) = 4
            sync(0) = 4
            get(0, 0) = -2147483648
            get(0, 1) = 2147483647
            get(0, 2) = -1
            get(0, 3) = 0
            commit(1) = true
            get(1, 0) = 2147483647
            get(1, 1) = -2147483648
            get(1, 2) = 0
            get(1, 3) = -1
            """);
    }
}
