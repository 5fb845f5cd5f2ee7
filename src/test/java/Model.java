import java.util.ArrayList;
import java.util.List;
import java.util.TreeMap;

/**
 * A second telling of the document, for comparison: it keeps what happened as plain lists and
 * maps and works everything out anew at each call.
 */
final class Model {
    record Entry(int block, int coin, boolean deposit, int prev, int from, int to, int signature) {
    }

    static final class Exit {
        int user;
        Entry entry;
        int start;
        final TreeMap<Integer, Integer> open = new TreeMap<>();
        final List<Integer> tried = new ArrayList<>();

        int a() {
            return entry.deposit ? 0 : entry.prev;
        }
    }

    final int seed;
    final int period;
    int time;
    final int[] money = {100, 100, 100, 100};
    final int[][] holds = new int[4][8];
    final List<Integer> values = new ArrayList<>();
    final List<Integer> gone = new ArrayList<>();
    final List<Boolean> shown = new ArrayList<>();
    final List<Entry> entries = new ArrayList<>();
    final TreeMap<Integer, Entry> waiting = new TreeMap<>();
    final TreeMap<Integer, Entry> draft = new TreeMap<>();
    final TreeMap<Integer, Exit> exits = new TreeMap<>();

    Model(int seed, int period) {
        this.seed = seed;
        this.period = period < 4 ? 4 : period > 64 ? 64 : period;
    }

    boolean noUser(int u) {
        return u < 0 || u > 3;
    }

    boolean noCoin(int c) {
        return c < 0 || c >= values.size();
    }

    boolean noBlock(int b) {
        return b <= 0 || b > shown.size();
    }

    Entry entry(int block, int coin) {
        for (Entry e : entries) {
            if (e.block == block && e.coin == coin) {
                return e;
            }
        }
        return null;
    }

    List<Entry> history(int coin) {
        List<Entry> found = new ArrayList<>();
        for (Entry e : entries) {
            if (e.coin == coin) {
                found.add(e);
            }
        }
        return found;
    }

    boolean good(Entry e) {
        return e.deposit
                || e.signature == Hashes.signature(seed, e.from, e.coin, e.prev, e.to);
    }

    boolean spends(Entry e, int a) {
        if (e == null || e.deposit || !good(e) || e.prev != a || a >= e.block) {
            return false;
        }
        Entry spent = entry(a, e.coin);
        return spent != null && good(spent) && spent.to == e.from;
    }

    int deposit(int u, int v) {
        if (noUser(u) || v < 1 || v > 50) {
            return -1;
        }
        if (values.size() == 8 || shown.size() == 24) {
            return -2;
        }
        if (money[u] < v) {
            return -3;
        }
        money[u] -= v;
        values.add(v);
        shown.add(true);
        int coin = values.size() - 1;
        entries.add(new Entry(shown.size(), coin, true, 0, 0, u, 0));
        holds[u][coin] = shown.size();
        return coin;
    }

    boolean send(int u, int c, int to) {
        if (noUser(u) || noUser(to) || u == to || noCoin(c) || holds[u][c] == 0) {
            return false;
        }
        int prev = holds[u][c];
        int signature = Hashes.signature(seed, u, c, prev, to);
        waiting.put(c, new Entry(0, c, false, prev, u, to, signature));
        holds[u][c] = 0;
        return true;
    }

    boolean forge(int c, int prev, int from, int to, int signer) {
        if (noCoin(c) || prev < 0 || prev > 31 || noUser(from) || noUser(to) || noUser(signer)) {
            return false;
        }
        int signature = Hashes.signature(seed, signer, c, prev, to);
        draft.put(c, new Entry(0, c, false, prev, from, to, signature));
        return true;
    }

    int build(boolean honest, boolean isShown) {
        if (shown.size() == 24) {
            return -2;
        }
        List<Entry> put = new ArrayList<>();
        for (Entry e : (honest ? waiting : draft).values()) {
            if (!honest || honestlyPut(e)) {
                put.add(e);
            }
        }
        shown.add(isShown);
        int number = shown.size();
        for (Entry e : put) {
            entries.add(new Entry(number, e.coin, false, e.prev, e.from, e.to, e.signature));
        }
        (honest ? waiting : draft).clear();
        return number;
    }

    boolean honestlyPut(Entry e) {
        List<Entry> history = history(e.coin);
        Entry last = history.get(history.size() - 1);
        return good(e) && !gone.contains(e.coin) && !exits.containsKey(e.coin)
                && e.prev == last.block && e.from == last.to;
    }

    boolean show(int b) {
        return !noBlock(b) && !shown.set(b - 1, true);
    }

    int accept(int u, int c) {
        if (noUser(u) || noCoin(c)) {
            return -1;
        }
        List<Entry> history = history(c);
        boolean sound = !shown.contains(false) && history.get(0).deposit;
        for (int i = 1; i < history.size(); i++) {
            sound &= spends(history.get(i), history.get(i - 1).block);
        }
        Entry last = history.get(history.size() - 1);
        if (gone.contains(c) || exits.containsKey(c) || !sound || last.to != u) {
            return -4;
        }
        holds[u][c] = last.block;
        return last.block;
    }

    int exit(int u, int c, int b) {
        if (noUser(u) || noCoin(c) || noBlock(b)) {
            return -1;
        }
        if (gone.contains(c) || exits.containsKey(c)) {
            return -4;
        }
        Entry e = entry(b, c);
        if (e == null || e.to != u || !(e.deposit || spends(e, e.prev))) {
            return -5;
        }
        if (money[u] < 10) {
            return -3;
        }
        money[u] -= 10;
        Exit exit = new Exit();
        exit.user = u;
        exit.entry = e;
        exit.start = time;
        exits.put(c, exit);
        return 0;
    }

    int after(int u, int c, int b) {
        if (noUser(u) || noCoin(c) || noBlock(b)) {
            return -1;
        }
        Exit exit = exits.get(c);
        if (exit == null) {
            return -4;
        }
        if (!spends(entry(b, c), exit.entry.block)) {
            return -5;
        }
        cancel(c, u);
        return 0;
    }

    int between(int u, int c, int b) {
        if (noUser(u) || noCoin(c) || noBlock(b)) {
            return -1;
        }
        Exit exit = exits.get(c);
        if (exit == null) {
            return -4;
        }
        if (exit.a() == 0 || b >= exit.entry.block || !spends(entry(b, c), exit.a())) {
            return -5;
        }
        cancel(c, u);
        return 0;
    }

    int before(int u, int c, int b) {
        if (noUser(u) || noCoin(c) || noBlock(b)) {
            return -1;
        }
        Exit exit = exits.get(c);
        if (exit == null || time - exit.start > period / 2 || exit.tried.contains(b)) {
            return -4;
        }
        if (b >= exit.a() || entry(b, c) == null || !good(entry(b, c))) {
            return -5;
        }
        if (money[u] < 2) {
            return -3;
        }
        money[u] -= 2;
        exit.open.put(b, u);
        exit.tried.add(b);
        return 0;
    }

    int answer(int c, int b, int d) {
        if (noCoin(c) || noBlock(b) || noBlock(d)) {
            return -1;
        }
        Exit exit = exits.get(c);
        if (exit == null || !exit.open.containsKey(b)) {
            return -4;
        }
        if (d > exit.a() || !spends(entry(d, c), b)) {
            return -5;
        }
        exit.open.remove(b);
        money[exit.user] += 2;
        return 0;
    }

    int finalise(int c) {
        if (noCoin(c)) {
            return -1;
        }
        Exit exit = exits.get(c);
        if (exit == null || time < exit.start + period) {
            return -4;
        }
        if (!exit.open.isEmpty()) {
            cancel(c, exit.open.firstEntry().getValue());
            return 0;
        }
        exits.remove(c);
        gone.add(c);
        money[exit.user] += values.get(c) + 10;
        return 1;
    }

    void cancel(int c, int winner) {
        Exit exit = exits.remove(c);
        money[winner] += 10;
        for (int challenger : exit.open.values()) {
            money[challenger] += 2;
        }
    }

    int watch(int u) {
        if (noUser(u)) {
            return -1;
        }
        int done = 0;
        for (int c = 0; c < values.size(); c++) {
            if (holds[u][c] != 0 && !gone.contains(c)) {
                done += watchCoin(u, c, holds[u][c]);
            }
        }
        return done;
    }

    int watchCoin(int u, int c, int h) {
        Exit exit = exits.get(c);
        if (exit == null) {
            boolean withheld = shown.subList(h, shown.size()).contains(false);
            return withheld && exit(u, c, h) == 0 ? 1 : 0;
        }
        int b = exit.entry.block;
        int done = 0;
        if (exit.user == u && b == h) {
            for (int by : new ArrayList<>(exit.open.keySet())) {
                done += answer(c, by, next(c, by)) == 0 ? 1 : 0;
            }
        } else if (b < h) {
            done += after(u, c, next(c, b)) == 0 ? 1 : 0;
        } else if (b > h && exit.a() < h) {
            done += between(u, c, next(c, exit.a())) == 0 ? 1 : 0;
        } else if (exit.a() > h) {
            done += before(u, c, h) == 0 ? 1 : 0;
        }
        return done;
    }

    int next(int c, int a) {
        for (Entry e : history(c)) {
            if (e.block > a) {
                return e.block;
            }
        }
        return -1;
    }

    int tick(int n) {
        if (n >= 0 && n <= 100) {
            time += n;
        }
        return time;
    }

    int user(int u, int what) {
        if (noUser(u) || what < 0 || what > 8) {
            return -1;
        }
        return what == 0 ? money[u] : holds[u][what - 1];
    }

    int coin(int c, int what) {
        if (c < 0 || c > 7 || what < 0 || what > 6) {
            return -1;
        }
        if (noCoin(c)) {
            return 0;
        }
        Exit exit = exits.get(c);
        if (what >= 2 && exit == null) {
            return 0;
        }
        return switch (what) {
            case 0 -> gone.contains(c) ? 2 : 1;
            case 1 -> values.get(c);
            case 2 -> exit.user + 1;
            case 3 -> exit.entry.block;
            case 4 -> exit.a();
            case 5 -> exit.start;
            default -> exit.open.size();
        };
    }

    int[] leaves(int b) {
        int[] leaves = new int[8];
        for (Entry e : entries) {
            if (e.block == b) {
                leaves[e.coin] = e.deposit
                        ? Hashes.depositLeaf(e.coin, e.to, values.get(e.coin))
                        : Hashes.transferLeaf(e.signature, e.coin, e.prev, e.from, e.to);
            }
        }
        return leaves;
    }

    int block(int b, int what) {
        if (noBlock(b) || what < 0 || what > 33) {
            return 0;
        }
        if (what == 0) {
            return Hashes.root(leaves(b));
        }
        if (!shown.get(b - 1)) {
            return 0;
        }
        if (what == 1) {
            return 1;
        }
        return what < 10 ? leaves(b)[what - 2]
                : Hashes.sibling(leaves(b), (what - 10) / 3, (what - 10) % 3);
    }

    boolean proves(int b, int c, int leaf, int x, int y, int z) {
        if (noBlock(b) || c < 0 || c > 7) {
            return false;
        }
        // A tree that is empty but for the path: each sibling stands for its whole side.
        int node = over(leaf, x, c % 2 == 1, 1);
        node = over(node, y, c / 2 % 2 == 1, 2);
        return over(node, z, c / 4 == 1, 3) == Hashes.root(leaves(b));
    }

    private static int over(int node, int sibling, boolean right, int level) {
        int l = right ? sibling : node;
        int r = right ? node : sibling;
        return l == 0 && r == 0 ? 0 : Hashes.mix(l, r, level);
    }

    int locked() {
        int sum = 0;
        for (int c = 0; c < values.size(); c++) {
            sum += gone.contains(c) ? 0 : values.get(c);
        }
        for (Exit exit : exits.values()) {
            sum += 10 + 2 * exit.open.size();
        }
        return sum;
    }
}
