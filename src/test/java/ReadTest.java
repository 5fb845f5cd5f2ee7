/** Promises 15 to 20: tick, user, coin, block, proves, locked. */
public final class ReadTest {
    private static final Expect EXPECT = new Expect("ReadTest");

    public static void main(String[] args) {
        tickGoesOn();
        userTells();
        coinTells();
        blockTellsItsTree();
        blockHidesWhatIsWithheld();
        blockRefuses();
        provesEveryCoin();
        provesRefuses();
        provesEmptyBlocks();
        lockedCountsAll();
        EXPECT.end();
    }

    private static void tickGoesOn() {
        CoinChild x = new CoinChild(1, 8);
        EXPECT.same("15: first", x.tick(0), 0);
        EXPECT.same("15: most", x.tick(100), 100);
        EXPECT.same("15: too much", x.tick(101), 100);
        EXPECT.same("15: back", x.tick(-1), 100);
        EXPECT.same("15: far back", x.tick(Integer.MIN_VALUE), 100);
        EXPECT.same("15: far", x.tick(Integer.MAX_VALUE), 100);
        EXPECT.same("15: on", x.tick(1), 101);
    }

    private static void userTells() {
        CoinChild x = new CoinChild(1, 4);
        x.deposit(1, 5);
        x.deposit(2, 6);
        x.deposit(1, 7);
        EXPECT.same("16: money", x.user(1, 0), 88);
        EXPECT.same("16: coin 0", x.user(1, 1), 1);
        EXPECT.same("16: coin 1", x.user(1, 2), 0);
        EXPECT.same("16: coin 2", x.user(1, 3), 3);
        EXPECT.same("16: coin 1", x.user(2, 2), 2);
        EXPECT.same("16: no coin yet", x.user(2, 8), 0);
        EXPECT.same("16: what", x.user(1, 9), CoinChild.BAD);
        EXPECT.same("16: what", x.user(1, -1), CoinChild.BAD);
        EXPECT.same("16: user", x.user(-1, 0), CoinChild.BAD);
        EXPECT.same("16: user", x.user(4, 0), CoinChild.BAD);
        EXPECT.same("16: user", x.user(-1, 9), CoinChild.BAD);
        x.exit(1, 0, 1);
        x.tick(4);
        x.finalise(0);
        EXPECT.same("16: also when gone", x.user(1, 1), 1);
    }

    private static void coinTells() {
        CoinChild x = new CoinChild(1, 8);
        EXPECT.same("17: none yet", x.coin(0, 0), 0);
        EXPECT.same("17: none yet", x.coin(7, 6), 0);
        x.deposit(1, 33);
        EXPECT.same("17: held", x.coin(0, 0), 1);
        EXPECT.same("17: value", x.coin(0, 1), 33);
        for (int what = 2; what <= 6; what++) {
            EXPECT.same("17: no exit", x.coin(0, what), 0);
        }
        x.send(1, 0, 3);
        x.build(true, true);
        x.forge(0, 2, 3, 0, 3);
        x.build(false, true);
        x.tick(9);
        x.exit(0, 0, 3);
        x.before(2, 0, 1);
        EXPECT.same("17: held", x.coin(0, 0), 1);
        EXPECT.same("17: user", x.coin(0, 2), 1);
        EXPECT.same("17: B", x.coin(0, 3), 3);
        EXPECT.same("17: A", x.coin(0, 4), 2);
        EXPECT.same("17: start", x.coin(0, 5), 9);
        EXPECT.same("17: challenges", x.coin(0, 6), 1);
        EXPECT.same("17: coin", x.coin(-1, 0), CoinChild.BAD);
        EXPECT.same("17: coin", x.coin(8, 0), CoinChild.BAD);
        EXPECT.same("17: what", x.coin(0, -1), CoinChild.BAD);
        EXPECT.same("17: what", x.coin(0, 7), CoinChild.BAD);
        EXPECT.same("17: what, none yet", x.coin(7, 7), CoinChild.BAD);
        x.answer(0, 1, 2);
        x.tick(8);
        x.finalise(0);
        EXPECT.same("17: gone", x.coin(0, 0), 2);
        EXPECT.same("17: value", x.coin(0, 1), 33);
    }

    /** All eight coins deposited by user 0 in blocks 1 to 8; then some of them in block 9. */
    private static CoinChild filled(int seed, int coins, boolean shown) {
        CoinChild x = new CoinChild(seed, 8);
        for (int c = 0; c < 8; c++) {
            x.deposit(0, 1);
        }
        for (int c = 0; c < 8; c++) {
            if ((coins >> c & 1) != 0) {
                x.forge(c, c + 1, c % 4, 3 - c % 4, c / 2);
            }
        }
        x.build(false, shown);
        return x;
    }

    private static int[] leavesOf(int seed, int coins) {
        int[] leaves = new int[8];
        for (int c = 0; c < 8; c++) {
            if ((coins >> c & 1) != 0) {
                int signature = Hashes.signature(seed, c / 2, c, c + 1, 3 - c % 4);
                leaves[c] = Hashes.transferLeaf(signature, c, c + 1, c % 4, 3 - c % 4);
            }
        }
        return leaves;
    }

    private static void blockTellsItsTree() {
        for (int coins = 0; coins < 256; coins++) {
            CoinChild x = filled(coins - 9, coins, true);
            int[] leaves = leavesOf(coins - 9, coins);
            EXPECT.same("18: root", x.block(9, 0), Hashes.root(leaves));
            EXPECT.same("18: shown", x.block(9, 1), 1);
            for (int c = 0; c < 8; c++) {
                EXPECT.same("18: leaf", x.block(9, 2 + c), leaves[c]);
                for (int k = 0; k < 3; k++) {
                    int due = Hashes.sibling(leaves, c, k);
                    EXPECT.same("18: sibling", x.block(9, 10 + 3 * c + k), due);
                }
            }
        }
    }

    private static void blockHidesWhatIsWithheld() {
        CoinChild x = filled(6, 255, false);
        EXPECT.same("18: root", x.block(9, 0), Hashes.root(leavesOf(6, 255)));
        for (int what = 1; what <= 33; what++) {
            EXPECT.same("18: withheld", x.block(9, what), 0);
        }
        x.show(9);
        EXPECT.same("18: shown", x.block(9, 1), 1);
        EXPECT.same("18: leaf", x.block(9, 2), leavesOf(6, 255)[0]);
    }

    private static void blockRefuses() {
        CoinChild x = filled(6, 255, true);
        EXPECT.same("18: what", x.block(9, -1), 0);
        EXPECT.same("18: what", x.block(9, 34), 0);
        EXPECT.same("18: what", x.block(9, Integer.MAX_VALUE), 0);
        EXPECT.same("18: what", x.block(9, Integer.MIN_VALUE), 0);
        EXPECT.same("18: block", x.block(0, 0), 0);
        EXPECT.same("18: block", x.block(-1, 1), 0);
        EXPECT.same("18: block", x.block(10, 1), 0);
        EXPECT.same("18: block", x.block(25, 1), 0);
        EXPECT.same("18: block", x.block(Integer.MAX_VALUE, 1), 0);
    }

    private static void provesEveryCoin() {
        int coins = 0b10110101;
        CoinChild x = filled(8, coins, true);
        for (int c = 0; c < 8; c++) {
            int p = 10 + 3 * c;
            int leaf = x.block(9, 2 + c);
            int i = x.block(9, p);
            int j = x.block(9, p + 1);
            int k = x.block(9, p + 2);
            EXPECT.yes("19: proof of " + c, x.proves(9, c, leaf, i, j, k));
            EXPECT.no("19: another leaf", x.proves(9, c, leaf + 1, i, j, k));
            EXPECT.no("19: another sibling", x.proves(9, c, leaf, i + 1, j, k));
            EXPECT.no("19: another sibling", x.proves(9, c, leaf, i, j + 1, k));
            EXPECT.no("19: another sibling", x.proves(9, c, leaf, i, j, k + 1));
            EXPECT.no("19: another block", x.proves(1, c, leaf, i, j, k));
            // MIX takes k ^ a, so a node is the same over (l, r) as over (r, l): by the
            // document's words a proof leads up to the root from any coin's place.
            EXPECT.yes("19: another place", x.proves(9, c ^ 5, leaf, i, j, k));
        }
    }

    private static void provesRefuses() {
        CoinChild x = filled(8, 1, true);
        int leaf = x.block(9, 2);
        EXPECT.yes("19: proof", x.proves(9, 0, leaf, 0, 0, 0));
        EXPECT.no("19: coin", x.proves(9, 8, leaf, 0, 0, 0));
        EXPECT.no("19: coin", x.proves(9, -8, leaf, 0, 0, 0));
        EXPECT.no("19: coin", x.proves(9, 16, leaf, 0, 0, 0));
        EXPECT.no("19: block", x.proves(0, 0, leaf, 0, 0, 0));
        EXPECT.no("19: block", x.proves(10, 0, leaf, 0, 0, 0));
        EXPECT.no("19: block", x.proves(10, 0, 0, 0, 0, 0));
        EXPECT.no("19: block", x.proves(-1, 0, 0, 0, 0, 0));
        CoinChild y = filled(8, 1, false);
        EXPECT.yes("19: the root is known of a withheld one", y.proves(9, 0, leaf, 0, 0, 0));
    }

    private static void provesEmptyBlocks() {
        CoinChild x = filled(8, 0, true);
        EXPECT.same("18: root", x.block(9, 0), 0);
        for (int c = 0; c < 8; c++) {
            EXPECT.yes("19: no entry", x.proves(9, c, 0, 0, 0, 0));
            EXPECT.no("19: an entry", x.proves(9, c, 1, 0, 0, 0));
        }
    }

    private static void lockedCountsAll() {
        CoinChild x = new CoinChild(1, 4);
        EXPECT.same("20: nothing", x.locked(), 0);
        x.deposit(0, 5);
        x.deposit(1, 50);
        EXPECT.same("20: values", x.locked(), 55);
        x.exit(0, 0, 1);
        x.exit(1, 1, 2);
        EXPECT.same("20: bonds", x.locked(), 75);
        x.tick(4);
        x.finalise(0);
        EXPECT.same("20: gone", x.locked(), 60);
        x.forge(1, 2, 1, 2, 1);
        x.build(false, true);
        x.after(0, 1, 3);
        EXPECT.same("20: cancelled", x.locked(), 50);
        x.forge(1, 3, 2, 3, 2);
        x.build(false, true);
        x.exit(3, 1, 4);
        x.before(0, 1, 2);
        EXPECT.same("20: with a challenge", x.locked(), 62);
        x.answer(1, 2, 3);
        EXPECT.same("20: answered", x.locked(), 60);
    }
}
