import java.util.Arrays;
import java.util.List;
import java.util.Map;
import java.util.Random;
import java.util.TreeMap;

/**
 * Runs of 512 calls, the same each time: every answer beside that of Model; no refused call
 * changes what can be seen; money is neither made nor lost; and every kind of answer is met.
 */
public final class RandomRunsTest {
    private static final Expect EXPECT = new Expect("RandomRunsTest");
    private static final int RUNS = 600;
    private static final int CALLS = 512;
    private static final int BLOCK_NUMBERS = 34;
    private static final Map<String, Integer> MET = new TreeMap<>();

    private final Random random;
    private final CoinChild x;
    private final Model model;
    /** How likely a block comes, so that some runs fill up at once and others stay open long. */
    private final int pace;
    /** Few coins have long histories, many coins have many exits. */
    private final int mostCoins;
    /** Great values alone leave the users poor. */
    private final int leastValue;

    private RandomRunsTest(int run) {
        random = new Random(run);
        int seed = random.nextInt();
        int period = random.nextInt(24);
        pace = 3 + random.nextInt(12);
        mostCoins = 1 + random.nextInt(9);
        leastValue = random.nextInt(3) == 0 ? 48 : 1;
        x = new CoinChild(seed, period);
        model = new Model(seed, period);
    }

    public static void main(String[] args) {
        for (int run = 0; run < RUNS && EXPECT.wrongs() < 20; run++) {
            new RandomRunsTest(run).play("run " + run);
        }
        everyAnswerIsMet();
        EXPECT.end();
    }

    private void play(String name) {
        int[] seen = see();
        for (int i = 0; i < CALLS && EXPECT.wrongs() < 20; i++) {
            boolean refused = step(name + " call " + i);
            int[] now = see();
            if (refused) {
                EXPECT.yes(name + " call " + i + ": nothing changed", Arrays.equals(seen, now));
            }
            seen = now;
            int sum = x.locked() + x.user(0, 0) + x.user(1, 0) + x.user(2, 0) + x.user(3, 0);
            EXPECT.same(name + " call " + i + ": all money", sum, 400);
            if (i % 32 == 31) {
                compareAll(name + " after call " + i);
            }
        }
    }

    private int[] see() {
        int[] all = new int[4 * 9 + 8 * 7 + 24 * 2 + 2];
        int n = 0;
        for (int u = 0; u < 4; u++) {
            for (int what = 0; what <= 8; what++) {
                all[n++] = x.user(u, what);
            }
        }
        for (int c = 0; c < 8; c++) {
            for (int what = 0; what <= 6; what++) {
                all[n++] = x.coin(c, what);
            }
        }
        for (int b = 1; b <= 24; b++) {
            all[n++] = x.block(b, 0);
            all[n++] = x.block(b, 1);
        }
        all[n++] = x.locked();
        all[n] = x.tick(0);
        return all;
    }

    private void compareAll(String when) {
        for (int u = -1; u <= 4; u++) {
            for (int what = -1; what <= 9; what++) {
                EXPECT.same(when + " user", x.user(u, what), model.user(u, what));
            }
        }
        for (int c = -1; c <= 8; c++) {
            for (int what = -1; what <= 7; what++) {
                EXPECT.same(when + " coin", x.coin(c, what), model.coin(c, what));
            }
        }
        for (int b = -1; b <= 25; b++) {
            for (int what = -1; what <= BLOCK_NUMBERS; what++) {
                EXPECT.same(when + " block", x.block(b, what), model.block(b, what));
            }
        }
        EXPECT.same(when + " locked", x.locked(), model.locked());
    }

    /** A number from 0 to below n, and now and then one outside. */
    private int below(int n) {
        if (random.nextInt(40) == 0) {
            int[] odd = {-1, n, n + 1, -n, Integer.MIN_VALUE, Integer.MAX_VALUE};
            return odd[random.nextInt(odd.length)];
        }
        return n <= 0 ? 0 : random.nextInt(n);
    }

    private int anyUser() {
        return below(4);
    }

    private int anyCoin() {
        return below(Math.max(1, model.values.size()));
    }

    private int anyBlock() {
        return below(model.shown.size()) + 1;
    }

    /** Most times a block that has an entry of the coin. */
    private int blockOf(int c) {
        List<Model.Entry> history = model.history(c);
        if (history.isEmpty() || random.nextInt(6) == 0) {
            return anyBlock();
        }
        return history.get(random.nextInt(history.size())).block();
    }

    private int latestOf(int c) {
        List<Model.Entry> history = model.history(c);
        return history.isEmpty() ? anyBlock() : history.get(history.size() - 1).block();
    }

    /** Most times the user to whom the coin went in the block. */
    private int toOf(int b, int c) {
        Model.Entry entry = model.entry(b, c);
        return entry == null || random.nextInt(8) == 0 ? anyUser() : entry.to();
    }

    /** Makes a call, and tells whether it was refused. */
    private boolean step(String when) {
        int roll = random.nextInt(100);
        if (roll < pace) {
            return build(when);
        }
        switch (random.nextInt(16)) {
            case 0: case 1:
                return deposit(when);
            case 2:
                return send(when);
            case 3: case 4:
                return forge(when);
            case 5:
                return show(when);
            case 6:
                return accept(when);
            case 7:
                return exit(when);
            case 8: case 9: case 10:
                return challenge(when);
            case 11:
                return answer(when);
            case 12:
                return finalise(when);
            case 13:
                return watch(when);
            case 14:
                return tick(when);
            default:
                return proves(when);
        }
    }

    private boolean compare(String when, String call, int got, int due) {
        EXPECT.same(when + ": " + call, got, due);
        String kind = call.substring(0, call.indexOf('('));
        MET.merge(kind + " " + (got < 0 ? got : Math.min(got, 1)), 1, Integer::sum);
        return got < 0;
    }

    private boolean compare(String when, String call, boolean got, boolean due) {
        compare(when, call, got ? 1 : 0, due ? 1 : 0);
        return !got;
    }

    private static String call(String name, int... numbers) {
        return name + Arrays.toString(numbers).replace('[', '(').replace(']', ')');
    }

    private boolean build(String when) {
        boolean honest = random.nextBoolean();
        boolean shown = random.nextInt(5) != 0;
        String call = "build(" + honest + ", " + shown + ")";
        return compare(when, call, x.build(honest, shown), model.build(honest, shown));
    }

    private boolean deposit(String when) {
        if (model.values.size() >= mostCoins) {
            return forge(when);
        }
        int u = leastValue > 1 ? below(2) : anyUser();
        int v = leastValue + below(random.nextBoolean() ? 3 : 51 - leastValue);
        return compare(when, call("deposit", u, v), x.deposit(u, v), model.deposit(u, v));
    }

    private boolean send(String when) {
        int c = anyCoin();
        int u = toOf(blockOf(c), c);
        int to = anyUser();
        return compare(when, call("send", u, c, to), x.send(u, c, to), model.send(u, c, to));
    }

    private boolean forge(String when) {
        int c = anyCoin();
        int prev = random.nextInt(8) == 0 ? below(32)
                : random.nextBoolean() ? blockOf(c) : latestOf(c);
        int from = toOf(prev, c);
        int to = anyUser();
        int signer = random.nextInt(6) == 0 ? anyUser() : from;
        boolean got = x.forge(c, prev, from, to, signer);
        boolean due = model.forge(c, prev, from, to, signer);
        return compare(when, call("forge", c, prev, from, to, signer), got, due);
    }

    private boolean show(String when) {
        int withheld = model.shown.indexOf(false) + 1;
        int b = random.nextInt(3) == 0 ? anyBlock() : withheld;
        return compare(when, call("show", b), x.show(b), model.show(b));
    }

    private boolean accept(String when) {
        int c = anyCoin();
        int u = toOf(blockOf(c), c);
        return compare(when, call("accept", u, c), x.accept(u, c), model.accept(u, c));
    }

    private boolean exit(String when) {
        int c = anyCoin();
        int b = random.nextBoolean() ? blockOf(c) : latestOf(c);
        int u = toOf(b, c);
        return compare(when, call("exit", u, c, b), x.exit(u, c, b), model.exit(u, c, b));
    }

    private int coinWithExit() {
        if (model.exits.isEmpty() || random.nextInt(6) == 0) {
            return anyCoin();
        }
        Integer[] open = model.exits.keySet().toArray(new Integer[0]);
        return open[random.nextInt(open.length)];
    }

    private boolean challenge(String when) {
        int u = anyUser();
        int c = coinWithExit();
        int b = blockOf(c);
        switch (random.nextInt(5)) {
            case 0:
                return compare(when, call("after", u, c, b), x.after(u, c, b), model.after(u, c, b));
            case 1:
                return compare(when, call("between", u, c, b),
                        x.between(u, c, b), model.between(u, c, b));
            default:
                return compare(when, call("before", u, c, b),
                        x.before(u, c, b), model.before(u, c, b));
        }
    }

    private boolean answer(String when) {
        int c = coinWithExit();
        Model.Exit exit = model.exits.get(c);
        int b = exit == null || exit.open.isEmpty() || random.nextInt(6) == 0
                ? blockOf(c) : exit.open.firstKey();
        int d = random.nextBoolean() ? blockOf(c) : model.next(c, b);
        return compare(when, call("answer", c, b, d), x.answer(c, b, d), model.answer(c, b, d));
    }

    private boolean finalise(String when) {
        int c = random.nextInt(3) == 0 ? coinWithExit() : anyCoin();
        return compare(when, call("finalise", c), x.finalise(c), model.finalise(c));
    }

    private boolean watch(String when) {
        int u = anyUser();
        return compare(when, call("watch", u), x.watch(u), model.watch(u));
    }

    private boolean tick(String when) {
        int n = random.nextInt(20) == 0 ? below(101) : random.nextInt(3);
        compare(when, call("tick", n), x.tick(n), model.tick(n));
        return false;
    }

    private boolean proves(String when) {
        int b = anyBlock();
        int c = below(8);
        int leaf = model.block(b, 2 + c) + (random.nextInt(4) == 0 ? 1 : 0);
        int i = model.block(b, 10 + 3 * c);
        int j = model.block(b, 11 + 3 * c);
        int k = model.block(b, 12 + 3 * c);
        boolean got = x.proves(b, c, leaf, i, j, k);
        compare(when, call("proves", b, c, leaf, i, j, k), got, model.proves(b, c, leaf, i, j, k));
        return true;
    }

    private static void everyAnswerIsMet() {
        String[] due = {
            "deposit 0", "deposit 1", "deposit -1", "deposit -2", "deposit -3",
            "send 0", "send 1", "forge 0", "forge 1", "build 1", "build -2", "show 0", "show 1",
            "accept 1", "accept -1", "accept -4",
            "exit 0", "exit -1", "exit -3", "exit -4", "exit -5",
            "after 0", "after -1", "after -4", "after -5",
            "between 0", "between -1", "between -4", "between -5",
            "before 0", "before -1", "before -3", "before -4", "before -5",
            "answer 0", "answer -1", "answer -4", "answer -5",
            "finalise 0", "finalise 1", "finalise -1", "finalise -4",
            "watch 0", "watch 1", "watch -1", "tick 0", "tick 1", "proves 0", "proves 1"};
        for (String kind : due) {
            EXPECT.yes("met: " + kind, MET.getOrDefault(kind, 0) >= 5);
        }
        System.out.println(MET);
    }
}
