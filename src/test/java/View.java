import java.util.ArrayList;
import java.util.List;

/** What can be seen by reading calls, but for what stands below the roots of blocks. */
final class View {
    private static final List<Call> CALLS = calls();

    private View() {
    }

    private static List<Call> calls() {
        List<Call> all = new ArrayList<>();
        for (int u = 0; u < 4; u++) {
            for (int what = 0; what <= 8; what++) {
                all.add(new Call("user", u, what));
            }
        }
        for (int c = 0; c < 8; c++) {
            for (int what = 0; what <= 6; what++) {
                all.add(new Call("coin", c, what));
            }
        }
        for (int b = 1; b <= 24; b++) {
            all.add(new Call("block", b, 0));
            all.add(new Call("block", b, 1));
        }
        all.add(new Call("locked"));
        all.add(new Call("tick", 0));
        return all;
    }

    static int size() {
        return CALLS.size();
    }

    static int[] of(CoinChild x) {
        int[] answers = new int[CALLS.size()];
        for (int i = 0; i < answers.length; i++) {
            answers[i] = CALLS.get(i).on(x);
        }
        return answers;
    }

    static int[] of(Model model) {
        int[] answers = new int[CALLS.size()];
        for (int i = 0; i < answers.length; i++) {
            answers[i] = CALLS.get(i).on(model);
        }
        return answers;
    }
}
