/** The boundary cases that promises 1 to 7 name, each in a test of its own. */
public final class ChainEdgeTest {
    private static final Expect EXPECT = new Expect("ChainEdgeTest");
    private static final int BAD = CoinChild.BAD;
    private static final int FULL = CoinChild.FULL;
    private static final int POOR = CoinChild.POOR;
    private static final int NOT_SO = CoinChild.NOT_SO;

    public static void main(String[] args) {
        periodIsAtLeastFour();
        periodIsAtMostSixtyFour();
        periodsInBoundsAreKept();
        newObjectHasNoCoins();
        newObjectHasNoBlocks();
        depositOfNoUser();
        depositTooSmall();
        depositTooLarge();
        depositOfLeastAndMost();
        depositWithEightCoins();
        depositWithEightCoinsOfWhichSomeAreGone();
        depositWithTwentyFourBlocks();
        depositOfAllMoney();
        depositOfOneMoreThanThereIs();
        depositNamesItsFirstRefusal();
        depositRefusedChangesNothing();
        sendOfNoUser();
        sendToNoUser();
        sendToOneself();
        sendOfNoCoin();
        sendOfWhatIsNotHeld();
        sendTwice();
        sendOfCoinsThatExitOrAreGone();
        sendRefusedChangesNothing();
        forgeOfNoCoin();
        forgeWithPrevOutOfBounds();
        forgeOfNoUsers();
        forgeToOneself();
        forgeRefusedChangesNothing();
        buildOfEmptyBlocks();
        buildOfFullBlocks();
        buildWithTwentyFourBlocks();
        buildLeavesWhatIsNotTheLatest();
        buildLeavesWhatExits();
        buildLeavesWhatIsGone();
        buildForgetsWhatItLeaves();
        showOfNoBlock();
        showOfShownBlocks();
        showOfEachBlock();
        acceptOfNoUser();
        acceptOfNoCoin();
        acceptOfAnothers();
        acceptWithAnyBlockWithheld();
        acceptWithAnExit();
        acceptOfWhatIsGone();
        acceptOfLongestHistory();
        acceptRefusedChangesNothing();
        EXPECT.end();
    }

    /** Looks at both limits that come of P: challenges BEFORE up to P / 2, finalising from P on. */
    private static void periodIs(int given, int due) {
        CoinChild x = Chains.handedOn(given);
        x.exit(3, 0, 4);
        x.tick(due / 2);
        EXPECT.same("1: challenge in time, period " + given, x.before(0, 0, 1), 0);
        x.tick(1);
        EXPECT.same("1: challenge too late, period " + given, x.before(0, 0, 2), NOT_SO);
        x.answer(0, 1, 2);
        x.tick(due - due / 2 - 2);
        EXPECT.same("1: not time, period " + given, x.finalise(0), NOT_SO);
        x.tick(1);
        EXPECT.same("1: time, period " + given, x.finalise(0), 1);
    }

    private static void periodIsAtLeastFour() {
        for (int given : new int[] {Integer.MIN_VALUE, -64, -4, -1, 0, 1, 2, 3, 4}) {
            periodIs(given, 4);
        }
    }

    private static void periodIsAtMostSixtyFour() {
        for (int given : new int[] {64, 65, 66, 128, 1 << 16, Integer.MAX_VALUE}) {
            periodIs(given, 64);
        }
    }

    private static void periodsInBoundsAreKept() {
        for (int given = 4; given <= 64; given++) {
            periodIs(given, given);
        }
    }

    private static void newObjectHasNoCoins() {
        CoinChild x = new CoinChild(0, 8);
        x.build(true, true);
        x.build(true, true);
        for (int c = 0; c < 8; c++) {
            EXPECT.no("1: send", x.send(0, c, 1));
            EXPECT.no("1: forge", x.forge(c, 1, 0, 1, 0));
            EXPECT.same("1: accept", x.accept(0, c), BAD);
            EXPECT.same("1: exit", x.exit(0, c, 1), BAD);
            EXPECT.same("1: after", x.after(0, c, 1), BAD);
            EXPECT.same("1: between", x.between(0, c, 1), BAD);
            EXPECT.same("1: before", x.before(0, c, 1), BAD);
            EXPECT.same("1: answer", x.answer(c, 1, 2), BAD);
            EXPECT.same("1: finalise", x.finalise(c), BAD);
        }
        EXPECT.same("1: locked", x.locked(), 0);
        EXPECT.same("1: watch", x.watch(0), 0);
    }

    private static void newObjectHasNoBlocks() {
        for (int b = 0; b <= 25; b++) {
            CoinChild x = new CoinChild(0, 8);
            EXPECT.no("1: show", x.show(b));
            EXPECT.no("1: proves", x.proves(b, 0, 0, 0, 0, 0));
            for (int what = 0; what <= 33; what++) {
                EXPECT.same("1: block", x.block(b, what), 0);
            }
        }
    }

    private static void depositOfNoUser() {
        CoinChild x = new CoinChild(0, 8);
        for (int u : Chains.outside(0, 3)) {
            EXPECT.same("2: user " + u, x.deposit(u, 1), BAD);
        }
        EXPECT.same("2: first user", x.deposit(0, 1), 0);
        EXPECT.same("2: last user", x.deposit(3, 1), 1);
    }

    private static void depositTooSmall() {
        CoinChild x = new CoinChild(0, 8);
        EXPECT.same("2: 0", x.deposit(0, 0), BAD);
        EXPECT.same("2: -1", x.deposit(0, -1), BAD);
        EXPECT.same("2: far too small", x.deposit(0, Integer.MIN_VALUE), BAD);
    }

    private static void depositTooLarge() {
        CoinChild x = new CoinChild(0, 8);
        EXPECT.same("2: 51", x.deposit(0, 51), BAD);
        EXPECT.same("2: all money", x.deposit(0, 100), BAD);
        EXPECT.same("2: far too large", x.deposit(0, Integer.MAX_VALUE), BAD);
    }

    private static void depositOfLeastAndMost() {
        CoinChild x = new CoinChild(0, 8);
        EXPECT.same("2: 1", x.deposit(0, 1), 0);
        EXPECT.same("2: 50", x.deposit(0, 50), 1);
        EXPECT.same("2: value", x.coin(0, 1), 1);
        EXPECT.same("2: value", x.coin(1, 1), 50);
        EXPECT.same("2: money", x.user(0, 0), 49);
    }

    private static CoinChild eightCoins() {
        CoinChild x = new CoinChild(0, 4);
        for (int c = 0; c < 8; c++) {
            EXPECT.same("2: number", x.deposit(c % 4, 1), c);
        }
        return x;
    }

    private static void depositWithEightCoins() {
        CoinChild x = eightCoins();
        EXPECT.same("2: eight coins", x.deposit(0, 1), FULL);
        EXPECT.same("2: no ninth", x.coin(8, 0), BAD);
    }

    private static void depositWithEightCoinsOfWhichSomeAreGone() {
        CoinChild x = eightCoins();
        x.exit(0, 0, 1);
        x.tick(4);
        EXPECT.same("2: one is gone", x.finalise(0), 1);
        EXPECT.same("2: there are eight still", x.deposit(0, 1), FULL);
    }

    private static void depositWithTwentyFourBlocks() {
        CoinChild x = new CoinChild(0, 8);
        Chains.emptyBlocks(x, 23);
        EXPECT.same("2: block 24", x.deposit(0, 1), 0);
        EXPECT.same("2: since block 24", x.user(0, 1), 24);
        EXPECT.same("2: 24 blocks", x.deposit(0, 1), FULL);
        EXPECT.same("2: no coin", x.coin(1, 0), 0);
    }

    private static void depositOfAllMoney() {
        CoinChild x = new CoinChild(0, 8);
        x.deposit(2, 50);
        x.deposit(2, 30);
        EXPECT.same("2: just all", x.deposit(2, 20), 2);
        EXPECT.same("2: nothing left", x.user(2, 0), 0);
        EXPECT.same("2: nothing for one more", x.deposit(2, 1), POOR);
    }

    private static void depositOfOneMoreThanThereIs() {
        CoinChild x = new CoinChild(0, 8);
        x.deposit(2, 50);
        x.deposit(2, 30);
        EXPECT.same("2: one too much", x.deposit(2, 21), POOR);
        EXPECT.same("2: others are not poor", x.deposit(1, 21), 2);
    }

    private static void depositNamesItsFirstRefusal() {
        CoinChild x = new CoinChild(0, 8);
        x.deposit(0, 50);
        x.deposit(0, 50);
        EXPECT.same("2: poor", x.deposit(0, 50), POOR);
        EXPECT.same("2: bad ahead of poor", x.deposit(0, 51), BAD);
        Chains.emptyBlocks(x, 22);
        EXPECT.same("2: full of blocks ahead of poor", x.deposit(0, 50), FULL);
        EXPECT.same("2: bad ahead of full", x.deposit(0, 0), BAD);
        EXPECT.same("2: bad ahead of full", x.deposit(4, 1), BAD);
        CoinChild y = new CoinChild(0, 8);
        for (int c = 0; c < 8; c++) {
            y.deposit(c / 2, 50);
        }
        EXPECT.same("2: full of coins ahead of poor", y.deposit(0, 1), FULL);
        EXPECT.same("2: bad ahead of full and poor", y.deposit(0, 51), BAD);
        EXPECT.same("2: bad ahead of full and poor", y.deposit(-1, 1), BAD);
    }

    private static void depositRefusedChangesNothing() {
        CoinChild x = new CoinChild(0, 8);
        x.deposit(0, 50);
        x.deposit(0, 49);
        x.deposit(0, 2);
        x.deposit(1, 0);
        x.deposit(4, 1);
        EXPECT.same("2: money", x.user(0, 0), 1);
        EXPECT.same("2: money", x.user(1, 0), 100);
        EXPECT.same("2: the next coin", x.deposit(1, 1), 2);
        EXPECT.same("2: in the next block", x.user(1, 3), 3);
    }

    private static CoinChild oneCoin() {
        CoinChild x = new CoinChild(5, 4);
        x.deposit(0, 5);
        return x;
    }

    private static void sendOfNoUser() {
        CoinChild x = oneCoin();
        for (int u : Chains.outside(0, 3)) {
            EXPECT.no("3: user " + u, x.send(u, 0, 1));
        }
    }

    private static void sendToNoUser() {
        CoinChild x = oneCoin();
        for (int to : Chains.outside(0, 3)) {
            EXPECT.no("3: to " + to, x.send(0, 0, to));
        }
        EXPECT.yes("3: to the last", x.send(0, 0, 3));
    }

    private static void sendToOneself() {
        CoinChild x = oneCoin();
        EXPECT.no("3: the same", x.send(0, 0, 0));
        EXPECT.same("3: held on", x.user(0, 1), 1);
    }

    private static void sendOfNoCoin() {
        CoinChild x = oneCoin();
        for (int c : Chains.outside(0, 7)) {
            EXPECT.no("3: coin " + c, x.send(0, c, 1));
            EXPECT.no("3: coin " + c, x.send(3, c, 1));
        }
        EXPECT.no("3: a coin that is not yet there", x.send(0, 1, 2));
    }

    private static void sendOfWhatIsNotHeld() {
        CoinChild x = oneCoin();
        x.deposit(1, 5);
        for (int u = 1; u < 4; u++) {
            EXPECT.no("3: not held", x.send(u, 0, (u + 1) % 4));
        }
        EXPECT.no("3: another's", x.send(0, 1, 2));
        EXPECT.yes("3: one's own", x.send(1, 1, 2));
    }

    private static void sendTwice() {
        CoinChild x = oneCoin();
        EXPECT.yes("3: sent", x.send(0, 0, 1));
        EXPECT.no("3: not held any more", x.send(0, 0, 2));
        EXPECT.no("3: not held by the other yet", x.send(1, 0, 2));
        x.build(true, true);
        EXPECT.no("3: not held by the other unless accepted", x.send(1, 0, 2));
        EXPECT.same("3: accepted", x.accept(1, 0), 2);
        EXPECT.yes("3: sent on", x.send(1, 0, 2));
    }

    private static void sendOfCoinsThatExitOrAreGone() {
        CoinChild x = oneCoin();
        x.deposit(0, 5);
        x.exit(0, 0, 1);
        EXPECT.yes("3: an exit is open", x.send(0, 0, 1));
        x.exit(0, 1, 2);
        x.tick(4);
        x.finalise(1);
        EXPECT.yes("3: gone, but held by the user", x.send(0, 1, 1));
        EXPECT.same("3: not any more", x.user(0, 2), 0);
    }

    private static void sendRefusedChangesNothing() {
        CoinChild x = oneCoin();
        x.send(0, 0, 2);
        x.send(0, 0, 1);
        x.send(1, 0, 3);
        x.send(2, 0, 3);
        x.send(4, 0, 1);
        x.build(true, true);
        EXPECT.same("3: the first went in", x.accept(2, 0), 2);
    }

    private static void forgeOfNoCoin() {
        CoinChild x = oneCoin();
        for (int c : Chains.outside(0, 7)) {
            EXPECT.no("4: coin " + c, x.forge(c, 1, 0, 1, 0));
        }
        for (int c = 1; c < 8; c++) {
            EXPECT.no("4: not yet deposited", x.forge(c, 1, 0, 1, 0));
        }
        for (int c = 1; c < 8; c++) {
            x.deposit(1, 1);
            EXPECT.yes("4: deposited", x.forge(c, 1, 0, 1, 0));
        }
    }

    private static void forgeWithPrevOutOfBounds() {
        CoinChild x = oneCoin();
        for (int prev : Chains.outside(0, 31)) {
            EXPECT.no("4: prev " + prev, x.forge(0, prev, 0, 1, 0));
        }
        for (int prev = 0; prev <= 31; prev++) {
            EXPECT.yes("4: prev " + prev, x.forge(0, prev, 0, 1, 0));
        }
    }

    private static void forgeOfNoUsers() {
        CoinChild x = oneCoin();
        for (int u : Chains.outside(0, 3)) {
            EXPECT.no("4: from " + u, x.forge(0, 1, u, 1, 0));
            EXPECT.no("4: to " + u, x.forge(0, 1, 0, u, 0));
            EXPECT.no("4: signer " + u, x.forge(0, 1, 0, 1, u));
        }
        for (int u = 0; u < 4; u++) {
            EXPECT.yes("4: from " + u, x.forge(0, 1, u, 1, 0));
            EXPECT.yes("4: to " + u, x.forge(0, 1, 0, u, 0));
            EXPECT.yes("4: signer " + u, x.forge(0, 1, 0, 1, u));
        }
    }

    private static void forgeToOneself() {
        CoinChild x = oneCoin();
        EXPECT.yes("4: from and to are the same", x.forge(0, 1, 0, 0, 0));
        x.build(false, true);
        EXPECT.same("4: it is good and spends", x.accept(0, 0), 2);
    }

    private static void forgeRefusedChangesNothing() {
        CoinChild x = oneCoin();
        x.forge(0, 1, 0, 3, 0);
        x.forge(0, 32, 0, 1, 0);
        x.forge(0, -1, 0, 1, 0);
        x.forge(0, 1, 4, 1, 0);
        x.forge(0, 1, 0, 4, 0);
        x.forge(0, 1, 0, 1, 4);
        x.forge(1, 1, 0, 1, 0);
        x.forge(8, 1, 0, 1, 0);
        x.build(false, true);
        EXPECT.same("4: the first went in", x.accept(3, 0), 2);
        for (int c = 1; c < 8; c++) {
            EXPECT.same("4: alone", x.block(2, 2 + c), 0);
        }
    }

    private static void emptyBlock(CoinChild x, int b) {
        EXPECT.same("5: root of an empty block", x.block(b, 0), 0);
        for (int what = 2; what <= 33; what++) {
            EXPECT.same("5: an empty block", x.block(b, what), 0);
        }
    }

    private static void buildOfEmptyBlocks() {
        CoinChild x = new CoinChild(5, 8);
        EXPECT.same("5: honest", x.build(true, true), 1);
        EXPECT.same("5: of no draft", x.build(false, true), 2);
        emptyBlock(x, 1);
        emptyBlock(x, 2);
        EXPECT.same("5: withheld", x.build(true, false), 3);
        EXPECT.yes("5: shown", x.show(3));
        emptyBlock(x, 3);
    }

    private static void buildOfFullBlocks() {
        CoinChild x = eightCoins();
        for (int c = 0; c < 8; c++) {
            EXPECT.yes("5: sent", x.send(c % 4, c, 3 - c % 4));
            EXPECT.yes("5: forged", x.forge(c, 9, 3 - c % 4, c % 4, 3 - c % 4));
        }
        EXPECT.same("5: all that wait", x.build(true, true), 9);
        EXPECT.same("5: the whole draft", x.build(false, true), 10);
        for (int c = 0; c < 8; c++) {
            EXPECT.same("5: coin " + c, x.accept(c % 4, c), 10);
        }
    }

    private static void buildWithTwentyFourBlocks() {
        for (int shown = 0; shown < 4; shown++) {
            CoinChild x = new CoinChild(5, 8);
            Chains.emptyBlocks(x, 23);
            EXPECT.same("5: block 24", x.build(shown % 2 == 0, shown / 2 == 0), 24);
            EXPECT.same("5: honest", x.build(true, true), FULL);
            EXPECT.same("5: honest, withheld", x.build(true, false), FULL);
            EXPECT.same("5: of the draft", x.build(false, true), FULL);
            EXPECT.same("5: of the draft, withheld", x.build(false, false), FULL);
            EXPECT.same("5: the last is as it was", x.block(24, 1), shown / 2 == 0 ? 1 : 0);
        }
    }

    private static void buildLeavesWhatIsNotTheLatest() {
        CoinChild x = oneCoin();
        x.send(0, 0, 1);
        Chains.transfer(x, 9, 0, 0);
        EXPECT.same("5: honest", x.build(true, true), 3);
        emptyBlock(x, 3);
        CoinChild y = oneCoin();
        y.send(0, 0, 1);
        y.deposit(0, 5);
        y.build(false, true);
        EXPECT.same("5: the latest that has an entry of the coin", y.build(true, true), 4);
        EXPECT.same("5: put in", y.accept(1, 0), 4);
    }

    private static void buildLeavesWhatExits() {
        CoinChild x = oneCoin();
        x.deposit(0, 5);
        x.send(0, 0, 1);
        x.send(0, 1, 1);
        x.exit(0, 0, 1);
        x.build(true, true);
        EXPECT.same("5: with an exit", x.block(3, 2), 0);
        EXPECT.same("5: without", x.accept(1, 1), 3);
        CoinChild y = oneCoin();
        Chains.transfer(y, 1, 0, 2);
        y.accept(2, 0);
        y.send(2, 0, 3);
        y.exit(0, 0, 1);
        y.after(1, 0, 2);
        y.build(true, true);
        EXPECT.same("5: the exit was cancelled", y.accept(3, 0), 3);
    }

    private static void buildLeavesWhatIsGone() {
        CoinChild x = oneCoin();
        x.send(0, 0, 1);
        x.exit(0, 0, 1);
        x.tick(4);
        EXPECT.same("5: gone", x.finalise(0), 1);
        EXPECT.same("5: honest", x.build(true, true), 2);
        emptyBlock(x, 2);
    }

    private static void buildForgetsWhatItLeaves() {
        CoinChild x = oneCoin();
        Chains.transfer(x, 1, 0, 1);
        x.accept(1, 0);
        x.send(1, 0, 2);
        x.exit(0, 0, 1);
        x.build(true, true);
        emptyBlock(x, 3);
        x.after(3, 0, 2);
        x.build(true, true);
        emptyBlock(x, 4);
    }

    private static void showOfNoBlock() {
        CoinChild x = new CoinChild(5, 8);
        x.build(true, false);
        for (int b : Chains.outside(1, 24)) {
            EXPECT.no("6: block " + b, x.show(b));
        }
        for (int b = 2; b <= 24; b++) {
            EXPECT.no("6: no such block yet", x.show(b));
        }
        x.build(true, false);
        EXPECT.same("6: still withheld when it comes", x.block(2, 1), 0);
    }

    private static void showOfShownBlocks() {
        CoinChild x = oneCoin();
        EXPECT.no("6: a deposit", x.show(1));
        x.build(true, true);
        EXPECT.no("6: shown from the first", x.show(2));
        x.build(true, false);
        EXPECT.yes("6: withheld", x.show(3));
        EXPECT.no("6: twice", x.show(3));
    }

    private static void showOfEachBlock() {
        CoinChild x = new CoinChild(5, 8);
        for (int b = 1; b <= 24; b++) {
            x.build(true, false);
        }
        for (int b = 24; b >= 1; b--) {
            EXPECT.same("6: withheld", x.block(b, 1), 0);
            EXPECT.yes("6: block " + b, x.show(b));
            EXPECT.same("6: shown", x.block(b, 1), 1);
        }
    }

    private static void acceptOfNoUser() {
        CoinChild x = oneCoin();
        for (int u : Chains.outside(0, 3)) {
            EXPECT.same("7: user " + u, x.accept(u, 0), BAD);
        }
    }

    private static void acceptOfNoCoin() {
        CoinChild x = oneCoin();
        for (int c : Chains.outside(0, 7)) {
            EXPECT.same("7: coin " + c, x.accept(0, c), BAD);
        }
        for (int c = 1; c < 8; c++) {
            EXPECT.same("7: not yet deposited", x.accept(0, c), BAD);
        }
        x.build(true, false);
        EXPECT.same("7: bad ahead of not so", x.accept(0, 1), BAD);
        EXPECT.same("7: bad ahead of not so", x.accept(4, 0), BAD);
    }

    private static void acceptOfAnothers() {
        CoinChild x = Chains.handedOn(8);
        for (int u = 0; u < 4; u++) {
            EXPECT.same("7: the TO of the last entry", x.accept(u, 0), u == 3 ? 4 : NOT_SO);
        }
    }

    private static void acceptWithAnyBlockWithheld() {
        for (int withheld = 1; withheld <= 5; withheld++) {
            CoinChild x = new CoinChild(5, 8);
            int deposit = withheld == 1 ? 2 : 1;
            for (int b = 1; b <= 5; b++) {
                if (b == deposit) {
                    x.deposit(0, 1);
                } else {
                    x.build(true, b != withheld);
                }
            }
            EXPECT.same("7: withheld is " + withheld, x.accept(0, 0), NOT_SO);
            x.show(withheld);
            EXPECT.same("7: shown is " + withheld, x.accept(0, 0), deposit);
        }
    }

    private static void acceptWithAnExit() {
        CoinChild x = Chains.handedOn(8);
        x.exit(0, 0, 1);
        EXPECT.same("7: an exit is open, also a false one", x.accept(3, 0), NOT_SO);
        x.after(1, 0, 2);
        EXPECT.same("7: it was cancelled", x.accept(3, 0), 4);
    }

    private static void acceptOfWhatIsGone() {
        CoinChild x = Chains.handedOn(4);
        x.exit(3, 0, 4);
        x.tick(4);
        x.finalise(0);
        EXPECT.same("7: gone", x.accept(3, 0), NOT_SO);
    }

    private static void acceptOfLongestHistory() {
        CoinChild x = new CoinChild(5, 8);
        x.deposit(0, 1);
        for (int b = 2; b <= 24; b++) {
            EXPECT.same("7: not yet the other's", x.accept((b - 1) % 4, 0), NOT_SO);
            Chains.transfer(x, b - 1, (b - 2) % 4, (b - 1) % 4);
            EXPECT.same("7: since " + b, x.accept((b - 1) % 4, 0), b);
        }
        EXPECT.same("7: held since", x.user(3, 1), 24);
    }

    private static void acceptRefusedChangesNothing() {
        CoinChild x = oneCoin();
        Chains.withheldTransfer(x, 1, 0, 1);
        EXPECT.same("7: withheld", x.accept(1, 0), NOT_SO);
        EXPECT.same("7: not held", x.user(1, 1), 0);
        EXPECT.same("7: the first holds it on", x.accept(0, 0), NOT_SO);
        EXPECT.same("7: the first holds it on", x.user(0, 1), 1);
    }
}
