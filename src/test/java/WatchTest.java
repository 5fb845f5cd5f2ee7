/** Promise 14: watch. */
public final class WatchTest {
    private static final Expect EXPECT = new Expect("WatchTest");

    public static void main(String[] args) {
        refusesNoUser();
        exitsWhenABlockIsWithheld();
        exitsOnlyForLaterBlocks();
        exitsByAscendingCoins();
        challengesAnEarlierEntry();
        challengesADoubleSpend();
        challengesAStolenHistory();
        leavesASpendingOfItsOwn();
        challengesItsOwnOldExit();
        answersAllChallenges();
        refusedCallsDoNotCount();
        leavesCoinsThatAreGone();
        looksUpToTheLastBlock();
        EXPECT.end();
    }

    private static void refusesNoUser() {
        CoinChild x = new CoinChild(1, 8);
        EXPECT.same("14: user", x.watch(-1), CoinChild.BAD);
        EXPECT.same("14: user", x.watch(4), CoinChild.BAD);
        EXPECT.same("14: holds nothing", x.watch(0), 0);
    }

    private static void exitsWhenABlockIsWithheld() {
        CoinChild x = new CoinChild(1, 8);
        x.deposit(0, 5);
        EXPECT.same("14: all shown", x.watch(0), 0);
        x.build(true, false);
        EXPECT.same("14: another holds nothing", x.watch(1), 0);
        EXPECT.same("14: withheld", x.watch(0), 1);
        EXPECT.same("14: user", x.coin(0, 2), 1);
        EXPECT.same("14: B", x.coin(0, 3), 1);
        EXPECT.same("14: bond", x.user(0, 0), 85);
        EXPECT.same("14: its own is open", x.watch(0), 0);
        EXPECT.same("14: held on", x.user(0, 1), 1);
    }

    private static void exitsOnlyForLaterBlocks() {
        CoinChild x = new CoinChild(1, 8);
        x.build(true, false);
        x.deposit(0, 5);
        EXPECT.same("14: an earlier block is withheld", x.watch(0), 0);
        x.build(true, false);
        x.build(true, true);
        x.show(3);
        EXPECT.same("14: shown since", x.watch(0), 0);
        x.build(true, false);
        x.build(true, true);
        EXPECT.same("14: one is withheld", x.watch(0), 1);
    }

    private static void exitsByAscendingCoins() {
        CoinChild x = new CoinChild(1, 8);
        x.deposit(0, 50);
        x.deposit(1, 1);
        x.deposit(0, 15);
        x.deposit(0, 10);
        x.deposit(0, 1);
        x.build(true, false);
        EXPECT.same("14: money for two", x.watch(0), 2);
        EXPECT.same("14: first", x.coin(0, 2), 1);
        EXPECT.same("14: not held by the user", x.coin(1, 2), 0);
        EXPECT.same("14: second", x.coin(2, 2), 1);
        EXPECT.same("14: poor", x.coin(3, 2), 0);
        EXPECT.same("14: poor", x.coin(4, 2), 0);
        EXPECT.same("14: poor still", x.watch(0), 0);
    }

    private static void challengesAnEarlierEntry() {
        CoinChild x = new CoinChild(1, 8);
        x.deposit(0, 5);
        x.build(true, true);
        Chains.transfer(x, 1, 0, 1);
        Chains.transfer(x, 3, 1, 2);
        x.accept(2, 0);
        x.exit(0, 0, 1);
        EXPECT.same("14: after, with the next", x.watch(2), 1);
        EXPECT.same("14: cancelled", x.coin(0, 2), 0);
        EXPECT.same("14: bond", x.user(2, 0), 110);
        EXPECT.same("14: nothing is left to do", x.watch(2), 0);
    }

    private static void challengesADoubleSpend() {
        CoinChild x = new CoinChild(1, 8);
        x.deposit(0, 5);
        Chains.transfer(x, 1, 0, 1);
        Chains.transfer(x, 2, 1, 2);
        x.accept(2, 0);
        Chains.transfer(x, 1, 0, 3);
        x.exit(3, 0, 4);
        EXPECT.same("14: between, with the next of A", x.watch(2), 1);
        EXPECT.same("14: cancelled", x.coin(0, 2), 0);
        EXPECT.same("14: bond", x.user(2, 0), 110);
    }

    private static void challengesAStolenHistory() {
        CoinChild x = new CoinChild(1, 8);
        x.deposit(0, 5);
        x.forge(0, 1, 2, 2, 2);
        x.build(false, true);
        Chains.transfer(x, 2, 2, 3);
        x.exit(3, 0, 3);
        EXPECT.same("14: before, with h", x.watch(0), 1);
        EXPECT.same("14: open", x.coin(0, 6), 1);
        EXPECT.same("14: bond", x.user(0, 0), 93);
        EXPECT.same("14: there was one", x.watch(0), 0);
        x.tick(8);
        EXPECT.same("14: it wins", x.finalise(0), 0);
        EXPECT.same("14: bonds", x.user(0, 0), 105);
    }

    private static void leavesASpendingOfItsOwn() {
        CoinChild x = new CoinChild(1, 8);
        x.deposit(0, 5);
        Chains.transfer(x, 1, 0, 1);
        x.exit(1, 0, 2);
        EXPECT.same("14: held since A", x.user(0, 1), 1);
        EXPECT.same("14: A is h", x.watch(0), 0);
        EXPECT.same("14: open", x.coin(0, 2), 2);
        CoinChild y = new CoinChild(1, 8);
        y.deposit(0, 5);
        Chains.transfer(y, 1, 0, 1);
        Chains.transfer(y, 1, 0, 2);
        y.exit(2, 0, 3);
        EXPECT.same("14: A is h, though BETWEEN would do", y.watch(0), 0);
        EXPECT.same("14: open", y.coin(0, 2), 3);
        EXPECT.same("10: between", y.between(0, 0, 2), 0);
    }

    private static void challengesItsOwnOldExit() {
        CoinChild x = new CoinChild(1, 8);
        x.deposit(0, 5);
        Chains.transfer(x, 1, 0, 1);
        Chains.transfer(x, 2, 1, 0);
        x.accept(0, 0);
        x.exit(0, 0, 1);
        EXPECT.same("14: its own, but not for h", x.watch(0), 1);
        EXPECT.same("14: cancelled", x.coin(0, 2), 0);
        EXPECT.same("14: bond back", x.user(0, 0), 95);
    }

    private static void answersAllChallenges() {
        CoinChild x = new CoinChild(1, 8);
        x.deposit(0, 5);
        Chains.transfer(x, 1, 0, 1);
        x.build(true, true);
        Chains.transfer(x, 2, 1, 2);
        Chains.transfer(x, 4, 2, 3);
        x.accept(3, 0);
        x.exit(3, 0, 5);
        x.before(0, 0, 2);
        x.before(0, 0, 1);
        EXPECT.same("14: both are open", x.coin(0, 6), 2);
        EXPECT.same("14: others do not answer", x.watch(0), 0);
        EXPECT.same("14: both are answered", x.watch(3), 2);
        EXPECT.same("14: none is open", x.coin(0, 6), 0);
        EXPECT.same("14: bonds", x.user(3, 0), 94);
        EXPECT.same("14: nothing more", x.watch(3), 0);
    }

    private static void refusedCallsDoNotCount() {
        CoinChild x = new CoinChild(1, 8);
        x.deposit(0, 5);
        Chains.transfer(x, 1, 0, 1);
        Chains.transfer(x, 2, 1, 2);
        x.accept(2, 0);
        x.forge(0, 3, 3, 3, 3);
        x.build(false, true);
        Chains.transfer(x, 4, 3, 1);
        x.exit(1, 0, 5);
        x.tick(5);
        EXPECT.same("14: too late", x.watch(2), 0);
        CoinChild y = new CoinChild(1, 8);
        y.deposit(0, 5);
        y.forge(0, 1, 0, 3, 3);
        y.build(false, true);
        Chains.transfer(y, 1, 0, 1);
        y.build(false, true);
        EXPECT.same("14: an unsound history is not accepted", y.accept(1, 0), CoinChild.NOT_SO);
        Chains.transfer(y, 3, 1, 2);
        y.exit(1, 0, 3);
        EXPECT.same("14: A is h", y.watch(0), 0);
        EXPECT.same("14: open", y.coin(0, 3), 3);
    }

    private static void leavesCoinsThatAreGone() {
        CoinChild x = new CoinChild(1, 4);
        x.deposit(0, 5);
        x.exit(0, 0, 1);
        x.tick(4);
        x.finalise(0);
        x.build(true, false);
        EXPECT.same("14: held by the user", x.user(0, 1), 1);
        EXPECT.same("14: but gone", x.watch(0), 0);
    }

    private static void looksUpToTheLastBlock() {
        CoinChild x = new CoinChild(1, 8);
        x.deposit(0, 5);
        for (int b = 2; b < 24; b++) {
            x.build(true, true);
        }
        EXPECT.same("14: all shown", x.watch(0), 0);
        x.forge(0, 1, 0, 1, 0);
        EXPECT.same("14: the last block", x.build(false, false), 24);
        EXPECT.same("14: it is withheld", x.watch(0), 1);
        x.after(2, 0, 24);
        x.show(24);
        EXPECT.same("14: accepted", x.accept(1, 0), 24);
        x.exit(0, 0, 1);
        EXPECT.same("14: after, with the last block", x.watch(1), 1);
        EXPECT.same("14: bond", x.user(1, 0), 110);
    }
}
