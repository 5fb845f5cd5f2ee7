import java.util.Arrays;
import java.util.Map;
import java.util.TreeMap;

/**
 * Runs of 512 calls, the same each time: every answer beside that of Model; what can be seen on
 * the way; refused calls are as if not made; money is neither made nor lost; and every kind of
 * answer is met. No object gets more than the 512 calls for which it is promised.
 */
public final class RandomRunsTest {
    private static final Expect EXPECT = new Expect("RandomRunsTest");
    private static final int RUNS = 2500;
    private static final int CALLS = 512;
    private static final int VIEW_EVERY = 30;
    private static final Map<String, Integer> MET = new TreeMap<>();

    public static void main(String[] args) {
        for (int number = 0; number < RUNS && EXPECT.wrongs() < 20; number++) {
            RandomRun run = new RandomRun(number, CALLS);
            answersAreDue("run " + number, run);
            refusedCallsAreAsIfNotMade("run " + number, run);
            for (int i = number % VIEW_EVERY; i + View.size() <= CALLS; i += VIEW_EVERY) {
                viewIsDue("run " + number + " after " + i, run, i);
            }
        }
        everyAnswerIsMet();
        EXPECT.end();
    }

    private static void answersAreDue(String name, RandomRun run) {
        CoinChild x = new CoinChild(run.seed, run.period);
        for (int i = 0; i < CALLS && EXPECT.wrongs() < 20; i++) {
            Call call = run.calls.get(i);
            int got = call.on(x);
            EXPECT.same(name + " call " + i + ": " + call, got, run.due.get(i));
            int kind = Math.max(CoinChild.UNPROVEN - 1, Math.min(got, 1));
            MET.merge(call.name() + " " + kind, 1, Integer::sum);
        }
    }

    private static void refusedCallsAreAsIfNotMade(String name, RandomRun run) {
        CoinChild x = new CoinChild(run.seed, run.period);
        for (int i = 0; i < CALLS && EXPECT.wrongs() < 20; i++) {
            Call call = run.calls.get(i);
            if (!call.isRefusal(run.due.get(i))) {
                EXPECT.same(name + " without refused ones: " + call, call.on(x), run.due.get(i));
            }
        }
    }

    private static void viewIsDue(String name, RandomRun run, int calls) {
        CoinChild x = new CoinChild(run.seed, run.period);
        Model model = new Model(run.seed, run.period);
        for (int i = 0; i < calls; i++) {
            run.calls.get(i).on(x);
            run.calls.get(i).on(model);
        }
        int[] seen = View.of(x);
        EXPECT.yes(name + " calls: seen as due", Arrays.equals(seen, View.of(model)));
        int locked = seen[seen.length - 2];
        int owned = seen[0] + seen[9] + seen[18] + seen[27];
        EXPECT.same(name + " calls: all money", locked + owned, 400);
    }

    private static void everyAnswerIsMet() {
        String[] due = {
            "deposit 0", "deposit 1", "deposit -1", "deposit -2", "deposit -3",
            "send 0", "send 1", "forge 0", "forge 1", "build 1", "build -2", "show 0", "show 1",
            "accept 1", "accept -1", "accept -4",
            "exit 0", "exit -1", "exit -3", "exit -4", "exit -5",
            "after 0", "after -1", "after -4", "after -5",
            "between 0", "between -1", "between -4", "between -5",
            "before 0", "before -1", "before -3", "before -4", "before -5",
            "answer 0", "answer -1", "answer -4", "answer -5",
            "finalise 0", "finalise 1", "finalise -1", "finalise -4",
            "watch 0", "watch 1", "watch -1", "tick 0", "tick 1", "proves 0", "proves 1",
            "user -1", "user 0", "user 1", "coin -1", "coin 0", "coin 1", "locked 0", "locked 1",
            "block -6", "block 0", "block 1"};
        for (String kind : due) {
            EXPECT.yes("met: " + kind, MET.getOrDefault(kind, 0) >= 5);
        }
    }
}
