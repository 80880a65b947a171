import java.util.NoSuchElementException;

/**
 * A shared log that its clients write themselves: storage units in two chains, tokens from a
 * sequencer, sealing and new layouts, and registers that every client works out by playing the log.
 */
public final class SharedLog {
    private static final int UNITS = 6;
    private static final int OFFSETS = 60;
    private static final int CHAINS = 2;
    private static final int CLIENTS = 4;
    private static final int REGISTERS = 4;
    private static final int LONGEST_ROW = 3;

    /** What look answers for each kind of cell. */
    private static final int NOTHING = 0;
    private static final int PUT = 1;
    private static final int COMMIT = 2;
    private static final int JUNK = 3;
    private static final int TRIM = 4;

    private static final int FIRST_EPOCH = 1;
    private static final int FIRST_EVEN_ROW = 12;
    private static final int FIRST_ODD_ROW = 34;
    private static final int UNFINISHED = 100;

    private final Unit[] units = new Unit[UNITS];
    private final Client[] clients = new Client[CLIENTS];
    private final Sequencer sequencer = new Sequencer();
    private final Entry nothing;
    private final Entry junk;
    private final Entry trimmed;
    private Layout installed;

    public SharedLog() {
        Work idle = new Work();
        nothing = new Entry(NOTHING, 0, idle);
        junk = new Entry(JUNK, 0, idle);
        trimmed = new Entry(TRIM, 0, idle);
        installed = new Layout(FIRST_EPOCH, rowOf(FIRST_EVEN_ROW), rowOf(FIRST_ODD_ROW));
        for (int u = 0; u < UNITS; u++) {
            units[u] = new Unit(nothing);
        }
        for (int c = 0; c < CLIENTS; c++) {
            clients[c] = new Client(installed);
        }
    }

    public int append(int client, int register, int value, int most)
            throws IllegalArgumentException, IllegalStateException, UnsupportedOperationException,
            IndexOutOfBoundsException {
        requireWithin(client, CLIENTS - 1);
        requireWithin(register, REGISTERS - 1);
        requireWithin(most, LONGEST_ROW);
        Client writer = clients[client];
        int offset = takeToken(writer);
        Work work = new Work();
        work.setPut(register, value);
        write(writer, offset, new Entry(PUT, value, work), most);
        boolean more = writer.known.chainOf(offset).length > most;
        return more ? offset - UNFINISHED : offset;
    }

    public int read(int client, int offset)
            throws IllegalArgumentException, IllegalStateException, NoSuchElementException,
            UnsupportedOperationException, IndexOutOfBoundsException {
        requireWithin(client, CLIENTS - 1);
        requireWithin(offset, OFFSETS - 1);
        Entry entry = entryAtEnd(clients[client], offset);
        if (entry.kind == JUNK) {
            throw new UnsupportedOperationException("junk");
        }
        return entry.answer;
    }

    public int fill(int client, int offset) throws IllegalArgumentException, IllegalStateException {
        requireWithin(client, CLIENTS - 1);
        requireWithin(offset, OFFSETS - 1);
        Client filler = clients[client];
        int[] row = filler.known.chainOf(offset);
        Entry filling = junk;
        int filled = 0;
        for (int i = 0; i < row.length; i++) {
            Unit unit = use(filler, row[i]);
            if (!unit.holds(offset)) {
                unit.cells[offset] = filling;
                filled++;
            } else if (i == 0) {
                filling = unit.cells[offset];
            }
        }
        return filled;
    }

    public int trim(int client, int offset) throws IllegalArgumentException, IllegalStateException {
        requireWithin(client, CLIENTS - 1);
        requireWithin(offset, OFFSETS - 1);
        int fresh = 0;
        for (int at = 0; at <= offset; at++) {
            fresh += trimOne(clients[client], at);
        }
        return fresh;
    }

    public int learn(int client) throws IllegalArgumentException {
        requireWithin(client, CLIENTS - 1);
        clients[client].known = installed;
        return installed.epoch;
    }

    public int change(int client, int chain, int row)
            throws IllegalArgumentException, IllegalStateException {
        requireWithin(client, CLIENTS - 1);
        requireWithin(chain, CHAINS - 1);
        requireRow(row);
        Client changer = clients[client];
        Layout old = installed;
        int[] fresh = rowOf(row);
        requireChangeable(changer, fresh);
        Layout next = old.next(chain, fresh);
        sealAll(old, fresh, next.epoch);
        merge(old.chain(chain), fresh, chain);
        installed = next;
        changer.known = next;
        sequencer.restart(next.epoch, firstFreeOffset());
        return sequencer.next;
    }

    public int up(int unit, boolean on) throws IllegalArgumentException {
        requireWithin(unit, UNITS - 1);
        units[unit].isUp = on;
        return units[unit].seal;
    }

    public int lose() {
        sequencer.lost = true;
        return sequencer.next;
    }

    public int sync(int client)
            throws IllegalArgumentException, IllegalStateException, NoSuchElementException,
            IndexOutOfBoundsException {
        requireWithin(client, CLIENTS - 1);
        Client player = clients[client];
        requireSequencer(player);
        play(player, sequencer.next);
        return player.position;
    }

    public int get(int client, int register) throws IllegalArgumentException {
        requireWithin(client, CLIENTS - 1);
        requireWithin(register, REGISTERS - 1);
        return clients[client].values[register];
    }

    public int begin(int client) throws IllegalArgumentException, IllegalStateException {
        requireWithin(client, CLIENTS - 1);
        Client owner = clients[client];
        if (owner.inTransaction) {
            throw new IllegalStateException("a transaction already");
        }
        owner.inTransaction = true;
        owner.transaction.clear();
        return owner.position;
    }

    public int see(int client, int register) throws IllegalArgumentException, IllegalStateException {
        requireWithin(client, CLIENTS - 1);
        requireWithin(register, REGISTERS - 1);
        Client owner = clients[client];
        requireTransaction(owner);
        Work work = owner.transaction;
        if (work.puts[register]) {
            return work.values[register];
        }
        work.noteRead(register, owner.ages[register]);
        return owner.values[register];
    }

    public int put(int client, int register, int value)
            throws IllegalArgumentException, IllegalStateException {
        requireWithin(client, CLIENTS - 1);
        requireWithin(register, REGISTERS - 1);
        Client owner = clients[client];
        requireTransaction(owner);
        owner.transaction.setPut(register, value);
        return owner.transaction.putCount();
    }

    public boolean commit(int client)
            throws IllegalArgumentException, IllegalStateException, NoSuchElementException,
            UnsupportedOperationException, IndexOutOfBoundsException {
        requireWithin(client, CLIENTS - 1);
        Client owner = clients[client];
        requireTransaction(owner);
        boolean effect = owner.transaction.putCount() == 0
                ? owner.agesMatch(owner.transaction)
                : writeAndPlayCommit(owner);
        owner.inTransaction = false;
        return effect;
    }

    public int drop(int client) throws IllegalArgumentException {
        requireWithin(client, CLIENTS - 1);
        Client owner = clients[client];
        if (!owner.inTransaction) {
            return -1;
        }
        owner.inTransaction = false;
        return owner.transaction.putCount();
    }

    public int look(int unit, int offset) throws IllegalArgumentException {
        requireWithin(unit, UNITS - 1);
        requireWithin(offset, OFFSETS - 1);
        return units[unit].cells[offset].kind;
    }

    public int client(int client, int what) throws IllegalArgumentException {
        requireWithin(client, CLIENTS - 1);
        requireWithin(what, 8);
        Client asked = clients[client];
        switch (what) {
            case 0:
                return asked.known.epoch;
            case 1:
                return asked.position;
            case 6:
            case 7:
                return digitsOf(asked.known.chain(what - 6));
            case 8:
                return asked.inTransaction ? 1 : 0;
            default:
                return asked.ages[what - 2];
        }
    }

    public int count(int what) throws IllegalArgumentException {
        requireWithin(what, 9);
        switch (what) {
            case 0:
                return installed.epoch;
            case 1:
                return sequencer.epoch;
            case 2:
                return sequencer.next;
            case 3:
                return sequencer.lost ? 1 : 0;
            default:
                return units[what - 4].seal;
        }
    }

    private static void requireWithin(int number, int most) {
        if (number < 0 || number > most) {
            throw new IllegalArgumentException("a number out of range");
        }
    }

    private static void requireRow(int row) {
        if (!isRow(row)) {
            throw new IllegalArgumentException("no row of units");
        }
    }

    private static boolean isRow(int row) {
        if (row < 1 || row > 666) {
            return false;
        }
        boolean[] named = new boolean[UNITS];
        for (int rest = row; rest > 0; rest /= 10) {
            int unit = rest % 10 - 1;
            if (unit < 0 || unit >= UNITS || named[unit]) {
                return false;
            }
            named[unit] = true;
        }
        return true;
    }

    /** The units of a row that isRow accepts, in the order of its digits. */
    private static int[] rowOf(int digits) {
        int length = digits < 10 ? 1 : digits < 100 ? 2 : 3;
        int[] row = new int[length];
        int rest = digits;
        for (int i = length - 1; i >= 0; i--) {
            row[i] = rest % 10 - 1;
            rest /= 10;
        }
        return row;
    }

    private static int digitsOf(int[] row) {
        int digits = 0;
        for (int i = 0; i < row.length; i++) {
            digits = digits * 10 + row[i] + 1;
        }
        return digits;
    }

    private static void requireTransaction(Client owner) {
        if (!owner.inTransaction) {
            throw new IllegalStateException("no transaction");
        }
    }

    private void requireSequencer(Client asker) {
        if (sequencer.lost || sequencer.epoch != asker.known.epoch) {
            throw new IllegalStateException("no sequencer of this epoch");
        }
    }

    private int takeToken(Client taker) {
        requireSequencer(taker);
        if (sequencer.next >= OFFSETS) {
            throw new IndexOutOfBoundsException("the log is full");
        }
        int token = sequencer.next;
        sequencer.next = token + 1;
        return token;
    }

    private Unit use(Client user, int number) {
        Unit unit = units[number];
        if (!unit.isUp || unit.seal > user.known.epoch) {
            throw new IllegalStateException("a unit that is not up, or sealed");
        }
        return unit;
    }

    private void write(Client writer, int offset, Entry entry, int most) {
        int[] row = writer.known.chainOf(offset);
        for (int i = 0; i < row.length && i < most; i++) {
            Unit unit = use(writer, row[i]);
            if (unit.holds(offset)) {
                throw new UnsupportedOperationException("written or trimmed already");
            }
            unit.cells[offset] = entry;
        }
    }

    /** What the last unit of the chain has: only there is an entry sure to be on the whole chain. */
    private Entry entryAtEnd(Client user, int offset) {
        int[] row = user.known.chainOf(offset);
        Entry entry = use(user, row[row.length - 1]).cells[offset];
        if (entry.kind == NOTHING) {
            throw new IndexOutOfBoundsException("nothing there");
        }
        if (entry.kind == TRIM) {
            throw new NoSuchElementException("trimmed");
        }
        return entry;
    }

    private int trimOne(Client trimmer, int offset) {
        int[] row = trimmer.known.chainOf(offset);
        int fresh = 0;
        for (int i = 0; i < row.length; i++) {
            Unit unit = use(trimmer, row[i]);
            if (unit.cells[offset].kind != TRIM) {
                unit.cells[offset] = trimmed;
                fresh++;
            }
        }
        return fresh;
    }

    /** Answers whether the last entry that was played took effect. */
    private boolean play(Client player, int end) {
        boolean effect = false;
        for (int offset = player.position; offset < end; offset++) {
            effect = player.apply(entryAtEnd(player, offset).work, offset + 1);
            player.position = offset + 1;
        }
        return effect;
    }

    private boolean writeAndPlayCommit(Client owner) {
        int offset = takeToken(owner);
        // If something is thrown the transaction goes on, and what it does then is not in the log.
        Work work = owner.transaction.copy();
        write(owner, offset, new Entry(COMMIT, work.putCount(), work), LONGEST_ROW);
        return play(owner, offset + 1);
    }

    private void requireChangeable(Client changer, int[] fresh) {
        if (changer.known.epoch != installed.epoch) {
            throw new IllegalStateException("an old layout");
        }
        if (upCount(fresh) < fresh.length) {
            throw new IllegalStateException("a unit of the row is not up");
        }
        for (int chain = 0; chain < CHAINS; chain++) {
            if (upCount(installed.chain(chain)) == 0) {
                throw new IllegalStateException("no unit of a chain is up");
            }
        }
    }

    private int upCount(int[] row) {
        int up = 0;
        for (int i = 0; i < row.length; i++) {
            if (units[row[i]].isUp) {
                up++;
            }
        }
        return up;
    }

    private void sealAll(Layout old, int[] fresh, int epoch) {
        for (int chain = 0; chain < CHAINS; chain++) {
            sealRow(old.chain(chain), epoch);
        }
        sealRow(fresh, epoch);
    }

    private void sealRow(int[] row, int epoch) {
        for (int i = 0; i < row.length; i++) {
            Unit unit = units[row[i]];
            if (unit.isUp) {
                unit.seal = epoch;
            }
        }
    }

    private void merge(int[] old, int[] fresh, int chain) {
        for (int offset = chain; offset < OFFSETS; offset += CHAINS) {
            Entry entry = firstHeld(old, offset);
            for (int i = 0; i < fresh.length; i++) {
                units[fresh[i]].cells[offset] = entry;
            }
        }
    }

    /** What the first unit of a row that is up and has something at an offset has there. */
    private Entry firstHeld(int[] row, int offset) {
        for (int i = 0; i < row.length; i++) {
            Unit unit = units[row[i]];
            if (unit.isUp && unit.holds(offset)) {
                return unit.cells[offset];
            }
        }
        return nothing;
    }

    private int firstFreeOffset() {
        for (int offset = OFFSETS - 1; offset >= 0; offset--) {
            if (firstHeld(installed.chainOf(offset), offset).kind != NOTHING) {
                return offset + 1;
            }
        }
        return 0;
    }

    /** A storage unit, with an entry for each offset (never null: one kind of entry is nothing). */
    private static final class Unit {
        final Entry[] cells = new Entry[OFFSETS];
        boolean isUp = true;
        int seal = 0;

        Unit(Entry nothing) {
            for (int offset = 0; offset < OFFSETS; offset++) {
                cells[offset] = nothing;
            }
        }

        boolean holds(int offset) {
            return cells[offset].kind != NOTHING;
        }
    }

    /** What stands at an offset; it is never changed, so units share it. */
    private static final class Entry {
        final int kind;
        final int answer;
        final Work work;

        Entry(int kind, int answer, Work work) {
            this.kind = kind;
            this.answer = answer;
            this.work = work;
        }
    }

    /** An epoch with its two rows of units; it is never changed, so clients share it. */
    private static final class Layout {
        final int epoch;
        final int[] even;
        final int[] odd;

        Layout(int epoch, int[] even, int[] odd) {
            this.epoch = epoch;
            this.even = even;
            this.odd = odd;
        }

        int[] chain(int chain) {
            return chain == 0 ? even : odd;
        }

        int[] chainOf(int offset) {
            return chain(offset % CHAINS);
        }

        Layout next(int chain, int[] row) {
            return chain == 0 ? new Layout(epoch + 1, row, odd) : new Layout(epoch + 1, even, row);
        }
    }

    private static final class Sequencer {
        boolean lost = false;
        int epoch = FIRST_EPOCH;
        int next = 0;

        void restart(int newEpoch, int newNext) {
            lost = false;
            epoch = newEpoch;
            next = newNext;
        }
    }

    /** What a transaction or an entry has read, with ages, and what it puts, by register. */
    private static final class Work {
        final boolean[] reads = new boolean[REGISTERS];
        final int[] readAges = new int[REGISTERS];
        final boolean[] puts = new boolean[REGISTERS];
        final int[] values = new int[REGISTERS];

        void clear() {
            for (int r = 0; r < REGISTERS; r++) {
                reads[r] = false;
                puts[r] = false;
            }
        }

        void noteRead(int register, int age) {
            if (!reads[register]) {
                reads[register] = true;
                readAges[register] = age;
            }
        }

        void setPut(int register, int value) {
            puts[register] = true;
            values[register] = value;
        }

        int putCount() {
            int number = 0;
            for (int r = 0; r < REGISTERS; r++) {
                if (puts[r]) {
                    number++;
                }
            }
            return number;
        }

        Work copy() {
            Work copy = new Work();
            for (int r = 0; r < REGISTERS; r++) {
                copy.reads[r] = reads[r];
                copy.readAges[r] = readAges[r];
                copy.puts[r] = puts[r];
                copy.values[r] = values[r];
            }
            return copy;
        }
    }

    private static final class Client {
        final int[] values = new int[REGISTERS];
        final int[] ages = new int[REGISTERS];
        final Work transaction = new Work();
        boolean inTransaction = false;
        int position = 0;
        Layout known;

        Client(Layout known) {
            this.known = known;
        }

        boolean agesMatch(Work work) {
            for (int r = 0; r < REGISTERS; r++) {
                if (work.reads[r] && work.readAges[r] != ages[r]) {
                    return false;
                }
            }
            return true;
        }

        /** Does what the work puts, if all that it read is of the same age still. */
        boolean apply(Work work, int age) {
            if (!agesMatch(work)) {
                return false;
            }
            for (int r = 0; r < REGISTERS; r++) {
                if (work.puts[r]) {
                    values[r] = work.values[r];
                    ages[r] = age;
                }
            }
            return true;
        }
    }
}
