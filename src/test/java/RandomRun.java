import java.util.ArrayList;
import java.util.List;
import java.util.Random;

/**
 * A run of calls, the same each time for a number, with the answers that Model gives. Model also
 * guides the choice, so that most calls have a chance not to be refused.
 */
final class RandomRun {
    final int seed;
    final int period;
    final List<Call> calls = new ArrayList<>();
    final List<Integer> due = new ArrayList<>();

    private final Random random;
    private final Model model;
    /** How likely a block comes, so that some runs fill up at once and others stay open long. */
    private final int pace;
    /** Few coins have long histories, many coins have many exits. */
    private final int mostCoins;
    /** Great values alone leave the users poor. */
    private final int leastValue;

    RandomRun(int number, int length) {
        random = new Random(number);
        seed = random.nextInt();
        period = random.nextInt(24);
        pace = 3 + random.nextInt(12);
        mostCoins = 1 + random.nextInt(9);
        leastValue = random.nextInt(3) == 0 ? 48 : 1;
        model = new Model(seed, period);
        for (int i = 0; i < length; i++) {
            Call call = random.nextInt(100) < pace ? build() : another();
            calls.add(call);
            due.add(call.on(model));
        }
    }

    private static Call call(String name, int... numbers) {
        return new Call(name, numbers);
    }

    private Call another() {
        switch (random.nextInt(18)) {
            case 0: case 1:
                return deposit();
            case 2:
                return send();
            case 3: case 4:
                return forge();
            case 5:
                return show();
            case 6:
                return accept();
            case 7:
                return exit();
            case 8: case 9: case 10:
                return challenge();
            case 11:
                return answer();
            case 12:
                return call("finalise", random.nextInt(3) == 0 ? coinWithExit() : anyCoin());
            case 13:
                return call("watch", anyUser());
            case 14:
                return call("tick", random.nextInt(20) == 0 ? below(101) : random.nextInt(3));
            case 15:
                return proves();
            default:
                return read();
        }
    }

    /** A number from 0 to below n, and now and then one outside. */
    private int below(int n) {
        if (random.nextInt(40) == 0) {
            int[] odd = {-1, n, n + 1, -n, Integer.MIN_VALUE, Integer.MAX_VALUE};
            return odd[random.nextInt(odd.length)];
        }
        return n <= 0 ? 0 : random.nextInt(n);
    }

    private int anyUser() {
        return below(4);
    }

    private int anyCoin() {
        return below(Math.max(1, model.values.size()));
    }

    private int anyBlock() {
        return below(model.shown.size()) + 1;
    }

    /** Most times a block that has an entry of the coin. */
    private int blockOf(int c) {
        List<Model.Entry> history = model.history(c);
        if (history.isEmpty() || random.nextInt(6) == 0) {
            return anyBlock();
        }
        return history.get(random.nextInt(history.size())).block();
    }

    private int latestOf(int c) {
        List<Model.Entry> history = model.history(c);
        return history.isEmpty() ? anyBlock() : history.get(history.size() - 1).block();
    }

    /** Most times the user to whom the coin went in the block. */
    private int toOf(int b, int c) {
        Model.Entry entry = model.entry(b, c);
        return entry == null || random.nextInt(8) == 0 ? anyUser() : entry.to();
    }

    private int coinWithExit() {
        if (model.exits.isEmpty() || random.nextInt(6) == 0) {
            return anyCoin();
        }
        Integer[] open = model.exits.keySet().toArray(new Integer[0]);
        return open[random.nextInt(open.length)];
    }

    private Call build() {
        return call("build", random.nextInt(2), random.nextInt(5));
    }

    private Call deposit() {
        if (model.values.size() >= mostCoins) {
            return forge();
        }
        int u = leastValue > 1 ? below(2) : anyUser();
        return call("deposit", u, leastValue + below(random.nextBoolean() ? 3 : 51 - leastValue));
    }

    private Call send() {
        int c = anyCoin();
        return call("send", toOf(blockOf(c), c), c, anyUser());
    }

    private Call forge() {
        int c = anyCoin();
        int prev = random.nextInt(8) == 0 ? below(32)
                : random.nextBoolean() ? blockOf(c) : latestOf(c);
        int from = toOf(prev, c);
        int signer = random.nextInt(6) == 0 ? anyUser() : from;
        return call("forge", c, prev, from, anyUser(), signer);
    }

    private Call show() {
        int withheld = model.shown.indexOf(false) + 1;
        return call("show", random.nextInt(3) == 0 ? anyBlock() : withheld);
    }

    private Call accept() {
        int c = anyCoin();
        return call("accept", toOf(blockOf(c), c), c);
    }

    private Call exit() {
        int c = anyCoin();
        int b = random.nextBoolean() ? blockOf(c) : latestOf(c);
        return call("exit", toOf(b, c), c, b);
    }

    private Call challenge() {
        String[] kinds = {"after", "between", "before", "before", "before"};
        int c = coinWithExit();
        return call(kinds[random.nextInt(kinds.length)], anyUser(), c, blockOf(c));
    }

    private Call answer() {
        int c = coinWithExit();
        Model.Exit exit = model.exits.get(c);
        int b = exit == null || exit.open.isEmpty() || random.nextInt(6) == 0
                ? blockOf(c) : exit.open.firstKey();
        return call("answer", c, b, random.nextBoolean() ? blockOf(c) : model.next(c, b));
    }

    private Call proves() {
        int b = anyBlock();
        int c = below(8);
        int leaf = model.block(b, 2 + c) + (random.nextInt(4) == 0 ? 1 : 0);
        int i = model.block(b, 10 + 3 * c);
        int j = model.block(b, 11 + 3 * c);
        int k = model.block(b, 12 + 3 * c);
        return call("proves", b, c, leaf, i, j, k);
    }

    private Call read() {
        switch (random.nextInt(6)) {
            case 0:
                return call("user", anyUser(), below(9));
            case 1:
                return call("coin", below(8), below(7));
            case 2:
                return call("locked");
            default:
                return call("block", anyBlock(), below(34));
        }
    }
}
