import java.util.ArrayList;
import java.util.HashMap;
import java.util.List;
import java.util.Map;
import java.util.NoSuchElementException;
import java.util.TreeMap;

/**
 * The document told a second time, in maps and texts instead of arrays, to be compared with
 * SharedLog. It shares no code and no way of holding the state with it.
 */
final class Model {
    /** A layout is a text: its epoch, a colon, and the two rows as digits. */
    private static final String FIRST_LAYOUT = "1:12:34";

    private record Entry(int kind, Map<Integer, Integer> read, Map<Integer, Integer> puts) {
    }

    private static final class Client {
        String layout = FIRST_LAYOUT;
        int position = 0;
        final Map<Integer, Integer> value = new HashMap<>();
        final Map<Integer, Integer> age = new HashMap<>();
        Map<Integer, Integer> read = null;
        Map<Integer, Integer> puts = null;
    }

    private final List<Map<Integer, Entry>> units = new ArrayList<>();
    private final List<Boolean> isUp = new ArrayList<>();
    private final List<Integer> seal = new ArrayList<>();
    private final List<Client> clients = new ArrayList<>();
    private String installed = FIRST_LAYOUT;
    private boolean lost = false;
    private int sequencerEpoch = 1;
    private int next = 0;

    Model() {
        for (int u = 0; u < 6; u++) {
            units.add(new TreeMap<>());
            isUp.add(true);
            seal.add(0);
        }
        for (int c = 0; c < 4; c++) {
            clients.add(new Client());
        }
    }

    int call(String name, int[] a) {
        switch (name) {
            case "append": return append(a[0], a[1], a[2], a[3]);
            case "read": return read(a[0], a[1]);
            case "fill": return fill(a[0], a[1]);
            case "trim": return trim(a[0], a[1]);
            case "learn": return learn(a[0]);
            case "change": return change(a[0], a[1], a[2]);
            case "up": return up(a[0], a[1] == 1);
            case "lose": lost = true; return next;
            case "sync": return sync(a[0]);
            case "get": return get(a[0], a[1]);
            case "begin": return begin(a[0]);
            case "see": return see(a[0], a[1]);
            case "put": return put(a[0], a[1], a[2]);
            case "commit": return commit(a[0]) ? 1 : 0;
            case "drop": return drop(a[0]);
            case "look": return look(a[0], a[1]);
            case "client": return client(a[0], a[1]);
            case "count": return count(a[0]);
            default: throw new AssertionError(name);
        }
    }

    private int append(int client, int register, int value, int most) {
        limits(client, 3, register, 3, most, 3);
        Client by = clients.get(client);
        int offset = token(by);
        write(by, offset, new Entry(1, Map.of(), Map.of(register, value)), most);
        return chain(by.layout, offset % 2).size() > most ? offset - 100 : offset;
    }

    private int read(int client, int offset) {
        limits(client, 3, offset, 59);
        Entry entry = last(clients.get(client), offset);
        if (entry.kind == 3) {
            throw new UnsupportedOperationException();
        }
        return entry.kind == 2 ? entry.puts.size() : entry.puts.values().iterator().next();
    }

    private int fill(int client, int offset) {
        limits(client, 3, offset, 59);
        Client by = clients.get(client);
        List<Integer> chain = chain(by.layout, offset % 2);
        int got = 0;
        for (int u : chain) {
            Map<Integer, Entry> unit = use(by, u);
            Entry first = units.get(chain.get(0)).get(offset);
            if (!unit.containsKey(offset)) {
                unit.put(offset, first == null ? new Entry(3, Map.of(), Map.of()) : first);
                got++;
            }
        }
        return got;
    }

    private int trim(int client, int offset) {
        limits(client, 3, offset, 59);
        Client by = clients.get(client);
        int had = 0;
        int all = 0;
        for (int at = 0; at <= offset; at++) {
            for (int u : chain(by.layout, at % 2)) {
                Entry before = use(by, u).put(at, new Entry(4, Map.of(), Map.of()));
                all++;
                had += before != null && before.kind == 4 ? 1 : 0;
            }
        }
        return all - had;
    }

    private int learn(int client) {
        limits(client, 3);
        clients.get(client).layout = installed;
        return epoch(installed);
    }

    private int change(int client, int chain, int row) {
        limits(client, 3, chain, 1);
        if (!String.valueOf(row).matches("[1-6]{1,3}")
                || String.valueOf(row).chars().distinct().count() < String.valueOf(row).length()) {
            throw new IllegalArgumentException();
        }
        Client by = clients.get(client);
        String[] parts = installed.split(":");
        String old = parts[1 + chain];
        parts[0] = String.valueOf(epoch(installed) + 1);
        parts[1 + chain] = String.valueOf(row);
        String made = String.join(":", parts);
        state(by.layout.equals(installed));
        state(chain(made, chain).stream().allMatch(isUp::get));
        state(chain(installed, 0).stream().anyMatch(isUp::get));
        state(chain(installed, 1).stream().anyMatch(isUp::get));
        List<Integer> sealed = new ArrayList<>(chain(installed, 0));
        sealed.addAll(chain(installed, 1));
        sealed.addAll(chain(made, chain));
        sealed.stream().filter(isUp::get).forEach(u -> seal.set(u, epoch(made)));
        Map<Integer, Entry> merged = new HashMap<>();
        for (char digit : old.toCharArray()) {
            if (isUp.get(digit - '1')) {
                units.get(digit - '1').forEach(merged::putIfAbsent);
            }
        }
        merged.keySet().removeIf(offset -> offset % 2 != chain);
        for (int u : chain(made, chain)) {
            units.get(u).keySet().removeIf(offset -> offset % 2 == chain);
            units.get(u).putAll(merged);
        }
        installed = made;
        by.layout = made;
        lost = false;
        sequencerEpoch = epoch(made);
        next = 0;
        for (int each = 0; each < 2; each++) {
            for (int u : chain(made, each)) {
                for (int offset : units.get(u).keySet()) {
                    if (isUp.get(u) && offset % 2 == each) {
                        next = Math.max(next, offset + 1);
                    }
                }
            }
        }
        return next;
    }

    private int up(int unit, boolean on) {
        limits(unit, 5);
        isUp.set(unit, on);
        return seal.get(unit);
    }

    private int sync(int client) {
        limits(client, 3);
        Client by = clients.get(client);
        state(!lost && sequencerEpoch == epoch(by.layout));
        while (by.position < next) {
            playOne(by);
        }
        return by.position;
    }

    private int get(int client, int register) {
        limits(client, 3, register, 3);
        return clients.get(client).value.getOrDefault(register, 0);
    }

    private int begin(int client) {
        limits(client, 3);
        Client by = clients.get(client);
        state(by.puts == null);
        by.puts = new HashMap<>();
        by.read = new HashMap<>();
        return by.position;
    }

    private int see(int client, int register) {
        limits(client, 3, register, 3);
        Client by = clients.get(client);
        state(by.puts != null);
        if (!by.puts.containsKey(register)) {
            by.read.putIfAbsent(register, by.age.getOrDefault(register, 0));
        }
        return by.puts.getOrDefault(register, by.value.getOrDefault(register, 0));
    }

    private int put(int client, int register, int value) {
        limits(client, 3, register, 3);
        Client by = clients.get(client);
        state(by.puts != null);
        by.puts.put(register, value);
        return by.puts.size();
    }

    private boolean commit(int client) {
        limits(client, 3);
        Client by = clients.get(client);
        state(by.puts != null);
        boolean effect = false;
        if (by.puts.isEmpty()) {
            effect = fresh(by, by.read);
        } else {
            int offset = token(by);
            write(by, offset, new Entry(2, Map.copyOf(by.read), Map.copyOf(by.puts)), 3);
            while (by.position <= offset) {
                effect = playOne(by);
            }
        }
        by.puts = null;
        return effect;
    }

    private int drop(int client) {
        limits(client, 3);
        Client by = clients.get(client);
        int dropped = by.puts == null ? -1 : by.puts.size();
        by.puts = null;
        return dropped;
    }

    private int look(int unit, int offset) {
        limits(unit, 5, offset, 59);
        Entry entry = units.get(unit).get(offset);
        return entry == null ? 0 : entry.kind;
    }

    private int client(int client, int what) {
        limits(client, 3, what, 8);
        Client of = clients.get(client);
        if (what >= 2 && what <= 5) {
            return of.age.getOrDefault(what - 2, 0);
        }
        return switch (what) {
            case 0 -> epoch(of.layout);
            case 1 -> of.position;
            case 8 -> of.puts == null ? 0 : 1;
            default -> Integer.parseInt(of.layout.split(":")[what - 5]);
        };
    }

    private int count(int what) {
        limits(what, 9);
        return switch (what) {
            case 0 -> epoch(installed);
            case 1 -> sequencerEpoch;
            case 2 -> next;
            case 3 -> lost ? 1 : 0;
            default -> seal.get(what - 4);
        };
    }

    private boolean playOne(Client by) {
        Entry entry = last(by, by.position);
        int age = by.position + 1;
        boolean effect = fresh(by, entry.read);
        if (effect) {
            by.value.putAll(entry.puts);
            entry.puts.keySet().forEach(register -> by.age.put(register, age));
        }
        by.position = age;
        return effect;
    }

    private static boolean fresh(Client by, Map<Integer, Integer> read) {
        return read.entrySet().stream()
            .allMatch(one -> one.getValue().equals(by.age.getOrDefault(one.getKey(), 0)));
    }

    private Entry last(Client by, int offset) {
        List<Integer> chain = chain(by.layout, offset % 2);
        Entry entry = use(by, chain.get(chain.size() - 1)).get(offset);
        if (entry == null) {
            throw new IndexOutOfBoundsException();
        }
        if (entry.kind == 4) {
            throw new NoSuchElementException();
        }
        return entry;
    }

    private int token(Client by) {
        state(!lost && sequencerEpoch == epoch(by.layout));
        if (next == 60) {
            throw new IndexOutOfBoundsException();
        }
        return next++;
    }

    private void write(Client by, int offset, Entry entry, int most) {
        chain(by.layout, offset % 2).stream().limit(most).forEach(u -> {
            if (use(by, u).putIfAbsent(offset, entry) != null) {
                throw new UnsupportedOperationException();
            }
        });
    }

    private Map<Integer, Entry> use(Client by, int unit) {
        state(isUp.get(unit) && seal.get(unit) <= epoch(by.layout));
        return units.get(unit);
    }

    private static List<Integer> chain(String layout, int chain) {
        return layout.split(":")[1 + chain].chars().map(digit -> digit - '1').boxed().toList();
    }

    private static int epoch(String layout) {
        return Integer.parseInt(layout.split(":")[0]);
    }

    private static void state(boolean holds) {
        if (!holds) {
            throw new IllegalStateException();
        }
    }

    /** Pairs of a number and the greatest that it may be. */
    private static void limits(int... pairs) {
        for (int i = 0; i < pairs.length; i += 2) {
            if (pairs[i] < 0 || pairs[i] > pairs[i + 1]) {
                throw new IllegalArgumentException();
            }
        }
    }
}
