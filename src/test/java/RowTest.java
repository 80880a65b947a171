import java.util.ArrayList;
import java.util.List;

/** "row: 1 to 3 digits 1 .. 6, none twice, each a UNIT's number plus 1": every row there is. */
public final class RowTest {
    private static int wrong = 0;

    public static void main(String[] args) {
        List<Integer> rows = rows();
        require(rows.size() == 6 + 6 * 5 + 6 * 5 * 4, "156 rows");
        for (int number = -1000; number <= 10000; number++) {
            checkNumber(number, rows.contains(number));
        }
        for (int number : new int[] {
            Integer.MIN_VALUE, Integer.MIN_VALUE + 1, Integer.MAX_VALUE, 123456, 12 + 65536, 1 << 16, 100001}) {
            checkNumber(number, false);
        }
        for (int row : rows) {
            checkUnits(row);
        }
        System.exit(wrong == 0 ? 0 : 1);
    }

    private static List<Integer> rows() {
        List<Integer> rows = new ArrayList<>();
        for (int a = 1; a <= 6; a++) {
            rows.add(a);
            for (int b = 1; b <= 6; b++) {
                if (b != a) {
                    rows.add(10 * a + b);
                    for (int c = 1; c <= 6; c++) {
                        if (c != a && c != b) {
                            rows.add(100 * a + 10 * b + c);
                        }
                    }
                }
            }
        }
        return rows;
    }

    private static void checkNumber(int number, boolean allowed) {
        for (int chain = 0; chain < 2; chain++) {
            String call = "change(3, " + chain + ", " + number + ")";
            String got = Script.answer(new SharedLog(), call);
            require(got.equals(allowed ? "= 0" : "throws IllegalArgumentException"), call + " " + got);
        }
    }

    /** The digits name the units of the chain, in their order: an entry goes to them one by one. */
    private static void checkUnits(int row) {
        String digits = String.valueOf(row);
        for (int chain = 0; chain < 2; chain++) {
            SharedLog log = new SharedLog();
            log.change(0, chain, row);
            require(log.client(0, 6 + chain) == row, "row " + row + " of chain " + chain);
            require(log.client(0, 7 - chain) == (chain == 0 ? 34 : 12), "the other row stays beside " + row);
            for (int i = 0; i < digits.length(); i++) {
                int offset = 2 * i + chain;
                log.up(digits.charAt(i) - '1', false);
                require(throwsState(log, offset), "row " + row + " uses its unit " + i);
                for (int unit = 0; unit < 6; unit++) {
                    int place = digits.indexOf('1' + unit);
                    int due = place >= 0 && place < i ? 3 : 0;
                    require(log.look(unit, offset) == due, "row " + row + " at " + offset + ", unit " + unit);
                }
                log.up(digits.charAt(i) - '1', true);
            }
        }
    }

    private static boolean throwsState(SharedLog log, int offset) {
        try {
            log.fill(0, offset);
            return false;
        } catch (IllegalStateException e) {
            return true;
        }
    }

    private static void require(boolean holds, String what) {
        if (!holds) {
            wrong++;
            System.out.println("it does not hold: " + what);
        }
    }
}
