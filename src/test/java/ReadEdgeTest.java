/** The boundary cases that promises 15 to 20 name, each in a test of its own. */
public final class ReadEdgeTest {
    private static final Expect EXPECT = new Expect("ReadEdgeTest");
    private static final int BAD = CoinChild.BAD;

    public static void main(String[] args) {
        tickOfEachNumber();
        tickOutOfBounds();
        tickCountsForExits();
        userOutOfBounds();
        userAskedOutOfBounds();
        userOfNoCoin();
        userOfWhatIsGone();
        coinOutOfBounds();
        coinAskedOutOfBounds();
        coinThatIsNotYet();
        coinWithoutAnExit();
        coinThatIsGone();
        blockOutOfBounds();
        blockAskedOutOfBounds();
        blockWithheld();
        blockLast();
        provesOfNoBlock();
        provesOfNoCoin();
        provesThatThereIsNoEntry();
        provesOfAnEmptyBlock();
        provesOfAWithheldBlock();
        provesOfExtremeNumbers();
        lockedOfNothing();
        lockedOfEverything();
        lockedOfWhatIsGone();
        lockedThroughAnExit();
        EXPECT.end();
    }

    private static void tickOfEachNumber() {
        CoinChild x = new CoinChild(1, 8);
        int time = 0;
        for (int n = 0; n <= 100; n++) {
            time += n;
            EXPECT.same("15: by " + n, x.tick(n), time);
        }
    }

    private static void tickOutOfBounds() {
        CoinChild x = new CoinChild(1, 8);
        x.tick(7);
        for (int n : Chains.outside(0, 100)) {
            EXPECT.same("15: by " + n, x.tick(n), 7);
        }
        EXPECT.same("15: it stayed", x.tick(0), 7);
    }

    private static void tickCountsForExits() {
        CoinChild x = new CoinChild(1, 8);
        x.deposit(0, 1);
        x.tick(100);
        x.tick(101);
        x.tick(-1);
        x.exit(0, 0, 1);
        EXPECT.same("15: start", x.coin(0, 5), 100);
    }

    private static void userOutOfBounds() {
        CoinChild x = new CoinChild(1, 8);
        for (int u : Chains.outside(0, 3)) {
            for (int what = 0; what <= 8; what++) {
                EXPECT.same("16: user " + u, x.user(u, what), BAD);
            }
        }
    }

    private static void userAskedOutOfBounds() {
        CoinChild x = new CoinChild(1, 8);
        for (int u = 0; u < 4; u++) {
            for (int what : Chains.outside(0, 8)) {
                EXPECT.same("16: what " + what, x.user(u, what), BAD);
            }
        }
    }

    private static void userOfNoCoin() {
        CoinChild x = new CoinChild(1, 8);
        for (int c = 0; c < 8; c++) {
            for (int later = c; later < 8; later++) {
                EXPECT.same("16: none yet", x.user(3, 1 + later), 0);
            }
            x.deposit(3, 1);
            EXPECT.same("16: since", x.user(3, 1 + c), c + 1);
            EXPECT.same("16: not by another", x.user(2, 1 + c), 0);
        }
    }

    private static void userOfWhatIsGone() {
        CoinChild x = new CoinChild(1, 4);
        x.build(true, true);
        x.deposit(1, 1);
        x.exit(1, 0, 2);
        x.tick(4);
        EXPECT.same("16: gone", x.finalise(0), 1);
        EXPECT.same("16: since", x.user(1, 1), 2);
        x.send(1, 0, 2);
        EXPECT.same("16: not any more", x.user(1, 1), 0);
    }

    private static void coinOutOfBounds() {
        CoinChild x = new CoinChild(1, 8);
        for (int c : Chains.outside(0, 7)) {
            for (int what = 0; what <= 6; what++) {
                EXPECT.same("17: coin " + c, x.coin(c, what), BAD);
            }
        }
    }

    private static void coinAskedOutOfBounds() {
        CoinChild x = new CoinChild(1, 8);
        x.deposit(0, 1);
        x.exit(0, 0, 1);
        for (int what : Chains.outside(0, 6)) {
            EXPECT.same("17: what " + what, x.coin(0, what), BAD);
            EXPECT.same("17: what " + what + ", none yet", x.coin(7, what), BAD);
        }
    }

    private static void coinThatIsNotYet() {
        CoinChild x = new CoinChild(1, 8);
        x.deposit(0, 1);
        for (int c = 1; c < 8; c++) {
            for (int what = 0; what <= 6; what++) {
                EXPECT.same("17: none yet", x.coin(c, what), 0);
            }
        }
    }

    private static void noExit(CoinChild x) {
        for (int what = 2; what <= 6; what++) {
            EXPECT.same("17: without an exit", x.coin(0, what), 0);
        }
    }

    private static void coinWithoutAnExit() {
        CoinChild x = Chains.handedOn(4);
        x.tick(9);
        noExit(x);
        x.exit(3, 0, 4);
        x.before(0, 0, 1);
        EXPECT.same("17: challenges", x.coin(0, 6), 1);
        x.tick(4);
        EXPECT.same("17: cancelled", x.finalise(0), 0);
        noExit(x);
        EXPECT.same("17: held", x.coin(0, 0), 1);
    }

    private static void coinThatIsGone() {
        CoinChild x = Chains.handedOn(4);
        x.exit(3, 0, 4);
        x.before(0, 0, 1);
        x.answer(0, 1, 2);
        x.tick(4);
        EXPECT.same("17: finalised", x.finalise(0), 1);
        EXPECT.same("17: gone", x.coin(0, 0), 2);
        EXPECT.same("17: value", x.coin(0, 1), 20);
        noExit(x);
    }

    private static void blockOutOfBounds() {
        for (int what = 0; what <= 33; what++) {
            CoinChild x = Chains.handedOn(8);
            for (int b : Chains.outside(1, 24)) {
                EXPECT.same("18: block " + b, x.block(b, what), 0);
            }
            for (int b = 5; b <= 24; b++) {
                EXPECT.same("18: no block " + b + " yet", x.block(b, what), 0);
            }
        }
    }

    private static CoinChild fullBlock(boolean shown) {
        CoinChild x = new CoinChild(1, 8);
        for (int c = 0; c < 8; c++) {
            x.deposit(0, 1);
        }
        for (int c = 0; c < 8; c++) {
            x.forge(c, c, c % 4, 1, 2);
        }
        x.build(false, shown);
        return x;
    }

    private static void blockAskedOutOfBounds() {
        CoinChild x = fullBlock(true);
        for (int what : Chains.outside(0, 33)) {
            EXPECT.same("18: what " + what, x.block(9, what), 0);
        }
        for (int what = 0; what <= 33; what++) {
            EXPECT.yes("18: what " + what, x.block(9, what) != 0);
        }
    }

    private static void blockWithheld() {
        CoinChild x = fullBlock(false);
        CoinChild y = fullBlock(true);
        EXPECT.same("18: the root is known", x.block(9, 0), y.block(9, 0));
        for (int what = 1; what <= 34; what++) {
            EXPECT.same("18: withheld, what " + what, x.block(9, what), 0);
        }
        x.show(9);
        for (int what = 0; what <= 34; what++) {
            EXPECT.same("18: shown, what " + what, x.block(9, what), y.block(9, what));
        }
    }

    private static void blockLast() {
        CoinChild x = new CoinChild(1, 8);
        Chains.emptyBlocks(x, 23);
        x.deposit(2, 3);
        EXPECT.same("18: block 24", x.block(24, 2), Hashes.depositLeaf(0, 2, 3));
        EXPECT.same("18: block 24", x.block(24, 1), 1);
        EXPECT.same("18: block 25", x.block(25, 1), 0);
    }

    private static void provesOfNoBlock() {
        CoinChild x = new CoinChild(1, 8);
        x.build(true, true);
        EXPECT.yes("19: an empty block", x.proves(1, 0, 0, 0, 0, 0));
        for (int b : Chains.outside(1, 24)) {
            EXPECT.no("19: block " + b, x.proves(b, 0, 0, 0, 0, 0));
        }
        for (int b = 2; b <= 24; b++) {
            EXPECT.no("19: no block " + b + " yet", x.proves(b, 0, 0, 0, 0, 0));
        }
    }

    private static void provesOfNoCoin() {
        CoinChild x = new CoinChild(1, 8);
        x.build(true, true);
        for (int c : Chains.outside(0, 7)) {
            EXPECT.no("19: coin " + c, x.proves(1, c, 0, 0, 0, 0));
        }
        for (int c = 0; c < 8; c++) {
            EXPECT.yes("19: a coin that is not yet", x.proves(1, c, 0, 0, 0, 0));
        }
    }

    private static void provesThatThereIsNoEntry() {
        CoinChild x = new CoinChild(1, 8);
        x.deposit(0, 1);
        int leaf = x.block(1, 2);
        for (int c = 1; c < 8; c++) {
            int i = x.block(1, 10 + 3 * c);
            int j = x.block(1, 11 + 3 * c);
            int k = x.block(1, 12 + 3 * c);
            EXPECT.yes("19: none of " + c, x.proves(1, c, 0, i, j, k));
            EXPECT.no("19: another", x.proves(1, c, leaf, i, j, k));
        }
        EXPECT.no("19: none of 0, which has one", x.proves(1, 0, 0, 0, 0, 0));
    }

    private static void provesOfAnEmptyBlock() {
        CoinChild x = new CoinChild(1, 8);
        x.build(true, true);
        EXPECT.no("19: a leaf", x.proves(1, 0, 1, 0, 0, 0));
        EXPECT.no("19: a sibling", x.proves(1, 0, 0, 1, 0, 0));
        EXPECT.no("19: a sibling", x.proves(1, 0, 0, 0, 1, 0));
        EXPECT.no("19: a sibling", x.proves(1, 0, 0, 0, 0, 1));
    }

    private static void provesOfAWithheldBlock() {
        CoinChild x = fullBlock(false);
        CoinChild y = fullBlock(true);
        for (int c = 0; c < 8; c++) {
            int i = y.block(9, 10 + 3 * c);
            int j = y.block(9, 11 + 3 * c);
            int k = y.block(9, 12 + 3 * c);
            EXPECT.yes("19: withheld", x.proves(9, c, y.block(9, 2 + c), i, j, k));
            EXPECT.no("19: withheld", x.proves(9, c, 0, i, j, k));
        }
    }

    private static void provesOfExtremeNumbers() {
        int[] extremes = {Integer.MIN_VALUE, -1, 0, 1, Integer.MAX_VALUE};
        for (int leaf : extremes) {
            CoinChild x = fullBlock(true);
            for (int i : extremes) {
                for (int j : extremes) {
                    for (int k : extremes) {
                        EXPECT.no("19: made up", x.proves(9, 5, leaf, i, j, k));
                    }
                }
            }
        }
    }

    private static void lockedOfNothing() {
        CoinChild x = new CoinChild(1, 8);
        EXPECT.same("20: new", x.locked(), 0);
        x.build(true, true);
        x.tick(100);
        EXPECT.same("20: no coins", x.locked(), 0);
    }

    private static void lockedOfEverything() {
        CoinChild x = new CoinChild(1, 8);
        for (int c = 0; c < 8; c++) {
            EXPECT.same("20: deposit", x.deposit(c / 2, 50), c);
        }
        EXPECT.same("20: all money", x.locked(), 400);
        for (int u = 0; u < 4; u++) {
            EXPECT.same("20: none left", x.user(u, 0), 0);
        }
    }

    private static void lockedOfWhatIsGone() {
        CoinChild x = new CoinChild(1, 4);
        for (int c = 0; c < 8; c++) {
            x.deposit(c / 2, 5);
            x.exit(c / 2, c, c + 1);
        }
        EXPECT.same("20: values and bonds", x.locked(), 40 + 80);
        x.tick(4);
        for (int c = 0; c < 8; c++) {
            x.finalise(c);
            EXPECT.same("20: one less", x.locked(), 15 * (7 - c));
        }
    }

    private static void lockedThroughAnExit() {
        CoinChild x = Chains.handedOn(8);
        EXPECT.same("20: the value", x.locked(), 20);
        x.exit(3, 0, 4);
        EXPECT.same("20: a bond of 10", x.locked(), 30);
        x.before(0, 0, 1);
        EXPECT.same("20: a bond of 2", x.locked(), 32);
        x.before(1, 0, 2);
        EXPECT.same("20: one more", x.locked(), 34);
        x.answer(0, 1, 2);
        EXPECT.same("20: answered", x.locked(), 32);
        x.tick(8);
        x.finalise(0);
        EXPECT.same("20: cancelled", x.locked(), 20);
    }
}
