import java.util.Arrays;

/** A call by its name and numbers, which can be made on the class and on the model. */
record Call(String name, int... numbers) {
    int on(CoinChild x) {
        int[] n = numbers;
        return switch (name) {
            case "deposit" -> x.deposit(n[0], n[1]);
            case "send" -> asInt(x.send(n[0], n[1], n[2]));
            case "forge" -> asInt(x.forge(n[0], n[1], n[2], n[3], n[4]));
            case "build" -> x.build(n[0] != 0, n[1] != 0);
            case "show" -> asInt(x.show(n[0]));
            case "accept" -> x.accept(n[0], n[1]);
            case "exit" -> x.exit(n[0], n[1], n[2]);
            case "after" -> x.after(n[0], n[1], n[2]);
            case "between" -> x.between(n[0], n[1], n[2]);
            case "before" -> x.before(n[0], n[1], n[2]);
            case "answer" -> x.answer(n[0], n[1], n[2]);
            case "finalise" -> x.finalise(n[0]);
            case "watch" -> x.watch(n[0]);
            case "tick" -> x.tick(n[0]);
            case "user" -> x.user(n[0], n[1]);
            case "coin" -> x.coin(n[0], n[1]);
            case "block" -> x.block(n[0], n[1]);
            case "proves" -> asInt(x.proves(n[0], n[1], n[2], n[3], n[4], n[5]));
            case "locked" -> x.locked();
            default -> throw new IllegalArgumentException(name);
        };
    }

    int on(Model m) {
        int[] n = numbers;
        return switch (name) {
            case "deposit" -> m.deposit(n[0], n[1]);
            case "send" -> asInt(m.send(n[0], n[1], n[2]));
            case "forge" -> asInt(m.forge(n[0], n[1], n[2], n[3], n[4]));
            case "build" -> m.build(n[0] != 0, n[1] != 0);
            case "show" -> asInt(m.show(n[0]));
            case "accept" -> m.accept(n[0], n[1]);
            case "exit" -> m.exit(n[0], n[1], n[2]);
            case "after" -> m.after(n[0], n[1], n[2]);
            case "between" -> m.between(n[0], n[1], n[2]);
            case "before" -> m.before(n[0], n[1], n[2]);
            case "answer" -> m.answer(n[0], n[1], n[2]);
            case "finalise" -> m.finalise(n[0]);
            case "watch" -> m.watch(n[0]);
            case "tick" -> m.tick(n[0]);
            case "user" -> m.user(n[0], n[1]);
            case "coin" -> m.coin(n[0], n[1]);
            case "block" -> m.block(n[0], n[1]);
            case "proves" -> asInt(m.proves(n[0], n[1], n[2], n[3], n[4], n[5]));
            case "locked" -> m.locked();
            default -> throw new IllegalArgumentException(name);
        };
    }

    /** Whether this answer says that the call was refused; a reading call never is. */
    boolean isRefusal(int answer) {
        return switch (name) {
            case "send", "forge", "show" -> answer == 0;
            case "user", "coin", "block", "proves", "locked" -> false;
            default -> answer < 0;
        };
    }

    private static int asInt(boolean answer) {
        return answer ? 1 : 0;
    }

    @Override
    public String toString() {
        return name + Arrays.toString(numbers);
    }
}
