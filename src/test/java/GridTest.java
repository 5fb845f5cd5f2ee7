import java.util.ArrayList;
import java.util.Arrays;
import java.util.List;

/**
 * In some states that are full of cases, every call that can change something, with mixtures of
 * chosen numbers in and out of bounds: its answer beside that of Model, and that a refused call
 * changes nothing, neither what can be seen at once nor what comes out by later calls.
 */
public final class GridTest {
    private static final Expect EXPECT = new Expect("GridTest");
    private static final int SEED = -5;
    private static final int PERIOD = 9;
    private static final int LOW = Integer.MIN_VALUE;
    private static final int HIGH = Integer.MAX_VALUE;
    private static final int[] USERS = {LOW, -1, 0, 1, 2, 3, 4, HIGH};
    private static final int[] FEW_USERS = {LOW, -1, 0, 3, 4, HIGH};
    private static final int[] COINS = {LOW, -1, 0, 1, 2, 3, 7, 8, HIGH};
    private static final int[] PREVS = {LOW, -1, 0, 1, 31, 32, HIGH};
    private static final int[] VALUES = {LOW, -1, 0, 1, 2, 9, 10, 11, 49, 50, 51, HIGH};
    private static final int[] TICKS = {LOW, -1, 0, 1, 99, 100, 101, HIGH};
    private static final int[] YES_NO = {0, 1};
    private static final int[] BLOCKS = {
        LOW, -1, 0, 1, 2, 3, 4, 5, 6, 7, 8, 9, 10, 11, 12, 23, 24, 25, HIGH};
    private static final List<Call> EPILOGUE = epilogueCalls();

    private final String state;
    private final List<Call> past;
    /** What the calls of the epilogue answer when none is made ahead of them. */
    private final int[] untouched;
    private final int[] seen;

    private GridTest(String state, List<Call> past) {
        this.state = state;
        this.past = past;
        pastIsNotRefused();
        CoinChild x = again();
        seen = View.of(x);
        untouched = epilogue(x);
    }

    public static void main(String[] args) {
        new GridTest("new", List.of()).tryAll();
        new GridTest("handed on", handedOn()).tryAll();
        new GridTest("exits", withExits(0)).tryAll();
        new GridTest("exits, late", withExits(PERIOD / 2 + 1)).tryAll();
        new GridTest("exits, in time", withExits(PERIOD)).tryAll();
        new GridTest("gone", withSomeGone()).tryAll();
        new GridTest("full of blocks", fullOfBlocks()).tryAll();
        new GridTest("full of coins", fullOfCoins()).tryAll();
        EXPECT.end();
    }

    private static Call call(String name, int... numbers) {
        return new Call(name, numbers);
    }

    /** Coins 0 to 2 with good, bad, doubly spent, withheld and waiting transfers, up to block 9. */
    private static List<Call> handedOn() {
        return new ArrayList<>(List.of(
                call("deposit", 0, 20), call("deposit", 1, 50), call("deposit", 1, 49),
                call("send", 0, 0, 1), call("build", 1, 1), call("accept", 1, 0),
                call("send", 1, 0, 2), call("send", 1, 1, 3), call("build", 1, 1),
                call("accept", 2, 0), call("accept", 3, 1),
                call("forge", 0, 4, 1, 3, 1), call("forge", 2, 3, 2, 2, 2), call("build", 0, 1),
                call("forge", 0, 5, 2, 0, 2), call("forge", 1, 5, 3, 1, 2),
                call("forge", 2, 6, 2, 3, 2), call("build", 0, 1),
                call("forge", 0, 7, 0, 3, 0), call("build", 0, 0),
                call("build", 1, 1),
                call("send", 2, 0, 3), call("forge", 0, 8, 3, 1, 3), call("forge", 1, 5, 3, 2, 3)));
    }

    private static List<Call> withExits(int since) {
        List<Call> all = handedOn();
        all.addAll(List.of(
                call("tick", 3), call("exit", 3, 0, 8), call("exit", 3, 2, 7),
                call("before", 0, 0, 1), call("before", 2, 0, 4), call("before", 0, 2, 3),
                call("answer", 0, 1, 4), call("tick", since)));
        return all;
    }

    private static List<Call> withSomeGone() {
        List<Call> all = handedOn();
        all.addAll(List.of(
                call("exit", 3, 1, 5), call("tick", PERIOD), call("finalise", 1),
                call("exit", 2, 0, 5), call("after", 3, 0, 7), call("exit", 0, 0, 1)));
        return all;
    }

    private static List<Call> fullOfBlocks() {
        List<Call> all = withExits(1);
        for (int b = 10; b <= 24; b++) {
            all.add(call("build", b % 2, b % 3));
        }
        return all;
    }

    private static List<Call> fullOfCoins() {
        List<Call> all = handedOn();
        for (int c = 3; c < 8; c++) {
            all.add(call("deposit", c % 2 + 2, 33));
        }
        return all;
    }

    private void pastIsNotRefused() {
        CoinChild x = new CoinChild(SEED, PERIOD);
        for (Call call : past) {
            EXPECT.no(state + ": refused is " + call, call.isRefusal(call.on(x)));
        }
    }

    private CoinChild again() {
        CoinChild x = new CoinChild(SEED, PERIOD);
        for (Call call : past) {
            call.on(x);
        }
        return x;
    }

    private Model againAsModel() {
        Model model = new Model(SEED, PERIOD);
        for (Call call : past) {
            call.on(model);
        }
        return model;
    }

    /** Calls that bring out what waits, the draft, what was challenged, and who holds what. */
    private static List<Call> epilogueCalls() {
        List<Call> all = new ArrayList<>();
        for (int c = 0; c < 3; c++) {
            for (int b = 1; b <= 9; b++) {
                all.add(call("answer", c, b, b + 1));
                all.add(call("before", 0, c, b));
            }
        }
        all.add(call("build", 0, 1));
        all.add(call("build", 1, 1));
        for (int b = 1; b <= 24; b++) {
            all.add(call("show", b));
            for (int c = 0; c < 8; c++) {
                all.add(call("block", b, 2 + c));
            }
        }
        for (int u = 0; u < 4; u++) {
            all.add(call("watch", u));
            all.add(call("user", u, 0));
        }
        all.add(call("tick", PERIOD));
        for (int c = 0; c < 8; c++) {
            all.add(call("finalise", c));
            all.add(call("accept", c % 4, c));
        }
        return all;
    }

    private static int[] epilogue(CoinChild x) {
        int[] answers = new int[EPILOGUE.size()];
        for (int i = 0; i < answers.length; i++) {
            answers[i] = EPILOGUE.get(i).on(x);
        }
        return answers;
    }

    private static int[] epilogue(Model model) {
        int[] answers = new int[EPILOGUE.size()];
        for (int i = 0; i < answers.length; i++) {
            answers[i] = EPILOGUE.get(i).on(model);
        }
        return answers;
    }

    private void tryAll() {
        tryGrid("deposit", USERS, VALUES);
        tryGrid("send", USERS, COINS, USERS);
        tryGrid("forge", COINS, PREVS, FEW_USERS, FEW_USERS, FEW_USERS);
        tryGrid("build", YES_NO, YES_NO);
        tryGrid("show", BLOCKS);
        tryGrid("accept", USERS, COINS);
        tryGrid("exit", USERS, COINS, BLOCKS);
        tryGrid("after", USERS, COINS, BLOCKS);
        tryGrid("between", USERS, COINS, BLOCKS);
        tryGrid("before", USERS, COINS, BLOCKS);
        tryGrid("answer", COINS, BLOCKS, BLOCKS);
        tryGrid("finalise", COINS);
        tryGrid("watch", USERS);
        tryGrid("tick", TICKS);
    }

    private void tryGrid(String name, int[]... ranges) {
        int[] at = new int[ranges.length];
        int[] numbers = new int[ranges.length];
        int last = 0;
        while (last >= 0) {
            for (int i = 0; i < at.length; i++) {
                numbers[i] = ranges[i][at[i]];
            }
            tryOne(call(name, numbers.clone()));
            last = at.length - 1;
            while (last >= 0 && ++at[last] == ranges[last].length) {
                at[last--] = 0;
            }
        }
    }

    private void tryOne(Call call) {
        if (EXPECT.wrongs() > 20) {
            return;
        }
        String what = state + ": " + call;
        CoinChild x = again();
        int got = call.on(x);
        if (call.isRefusal(got)) {
            EXPECT.same(what, got, call.on(againAsModel()));
            EXPECT.yes(what + ": seen as ahead of it", Arrays.equals(View.of(x), seen));
            EXPECT.yes(what + ": as if not made", Arrays.equals(epilogue(x), untouched));
        } else {
            Model model = againAsModel();
            EXPECT.same(what, got, call.on(model));
            EXPECT.yes(what + ": later", Arrays.equals(epilogue(x), epilogue(model)));
        }
    }
}
