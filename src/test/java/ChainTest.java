/** Promises 1 to 7: a new object, deposit, send, forge, build, show, accept. */
public final class ChainTest {
    private static final Expect EXPECT = new Expect("ChainTest");

    public static void main(String[] args) {
        newObjectIsEmpty();
        periodIsKeptInBounds();
        depositMakesCoinAndBlock();
        depositRefuses();
        depositIsFullOfBlocks();
        sendSigns();
        sendRefuses();
        sendReplacesWhatWaits();
        forgeDrafts();
        forgeRefuses();
        honestBuildTakesOnlyWhatFits();
        honestBuildLooksAtExits();
        buildKeepsDraftAndWaitingApart();
        buildIsFull();
        showShowsOnce();
        acceptTakesSoundHistories();
        acceptRefusesUnsoundHistories();
        acceptLooksAtTheContract();
        acceptLooksAtTheLastBlock();
        EXPECT.end();
    }

    private static void newObjectIsEmpty() {
        CoinChild x = new CoinChild(3, 10);
        for (int u = 0; u < 4; u++) {
            EXPECT.same("1: money", x.user(u, 0), 100);
            for (int c = 0; c < 8; c++) {
                EXPECT.same("1: holds", x.user(u, 1 + c), 0);
            }
        }
        for (int c = 0; c < 8; c++) {
            for (int what = 0; what <= 6; what++) {
                EXPECT.same("1: coin", x.coin(c, what), 0);
            }
        }
        EXPECT.same("1: block", x.block(1, 0), 0);
        EXPECT.no("1: no block", x.proves(1, 0, 0, 0, 0, 0));
        EXPECT.same("1: time", x.tick(0), 0);
        EXPECT.same("1: locked", x.locked(), 0);
        EXPECT.same("1: first block", x.build(true, true), 1);
    }

    private static void periodIsKeptInBounds() {
        period(Integer.MIN_VALUE, 4);
        period(-1, 4);
        period(3, 4);
        period(4, 4);
        period(5, 5);
        period(63, 63);
        period(64, 64);
        period(65, 64);
        period(Integer.MAX_VALUE, 64);
    }

    private static void period(int given, int due) {
        CoinChild x = new CoinChild(1, given);
        x.deposit(0, 1);
        x.exit(0, 0, 1);
        x.tick(due - 1);
        EXPECT.same("1: early with period " + given, x.finalise(0), CoinChild.NOT_SO);
        x.tick(1);
        EXPECT.same("1: in time with period " + given, x.finalise(0), 1);
    }

    private static void depositMakesCoinAndBlock() {
        CoinChild x = new CoinChild(11, 8);
        x.build(true, true);
        EXPECT.same("2: first", x.deposit(2, 50), 0);
        EXPECT.same("2: second", x.deposit(3, 1), 1);
        EXPECT.same("2: held since", x.user(2, 1), 2);
        EXPECT.same("2: held since", x.user(3, 2), 3);
        EXPECT.same("2: money", x.user(2, 0), 50);
        EXPECT.same("2: money", x.user(3, 0), 99);
        EXPECT.same("2: value", x.coin(0, 1), 50);
        EXPECT.same("2: value", x.coin(1, 1), 1);
        EXPECT.same("2: shown", x.block(2, 1), 1);
        EXPECT.same("2: leaf", x.block(3, 3), Hashes.depositLeaf(1, 3, 1));
        EXPECT.same("2: one entry", x.block(3, 2), 0);
        EXPECT.same("2: all money", x.deposit(2, 50), 2);
        EXPECT.same("2: money", x.user(2, 0), 0);
    }

    private static void depositRefuses() {
        CoinChild x = new CoinChild(11, 8);
        EXPECT.same("2: user", x.deposit(-1, 1), CoinChild.BAD);
        EXPECT.same("2: user", x.deposit(4, 1), CoinChild.BAD);
        EXPECT.same("2: value", x.deposit(0, 0), CoinChild.BAD);
        EXPECT.same("2: value", x.deposit(0, 51), CoinChild.BAD);
        EXPECT.same("2: value", x.deposit(0, -5), CoinChild.BAD);
        x.deposit(0, 50);
        x.deposit(0, 49);
        EXPECT.same("2: poor", x.deposit(0, 2), CoinChild.POOR);
        EXPECT.same("2: nothing changed", x.user(0, 0), 1);
        EXPECT.same("2: nothing changed", x.coin(2, 0), 0);
        EXPECT.same("2: nothing changed", x.block(3, 1), 0);
        for (int c = 2; c < 8; c++) {
            EXPECT.same("2: more", x.deposit(1, 1), c);
        }
        EXPECT.same("2: full ahead of poor", x.deposit(0, 2), CoinChild.FULL);
        EXPECT.same("2: bad ahead of full", x.deposit(0, 51), CoinChild.BAD);
        EXPECT.same("2: blocks are left", x.build(true, true), 9);
    }

    private static void depositIsFullOfBlocks() {
        CoinChild x = new CoinChild(11, 8);
        for (int b = 1; b < 24; b++) {
            x.build(true, true);
        }
        EXPECT.same("2: last block", x.deposit(0, 5), 0);
        EXPECT.same("2: full", x.deposit(0, 5), CoinChild.FULL);
        EXPECT.same("2: nothing changed", x.user(0, 0), 95);
    }

    private static void sendSigns() {
        int seed = -77;
        CoinChild x = new CoinChild(seed, 8);
        x.deposit(0, 5);
        x.deposit(1, 5);
        EXPECT.yes("3: sent", x.send(1, 1, 3));
        EXPECT.same("3: held no more", x.user(1, 2), 0);
        EXPECT.same("3: others hold on", x.user(0, 1), 1);
        x.build(true, true);
        int signature = Hashes.signature(seed, 1, 1, 2, 3);
        EXPECT.same("3: leaf", x.block(3, 3), Hashes.transferLeaf(signature, 1, 2, 1, 3));
        EXPECT.same("3: not accepted by itself", x.user(3, 2), 0);
    }

    private static void sendRefuses() {
        CoinChild x = new CoinChild(5, 8);
        x.deposit(0, 5);
        EXPECT.no("3: user", x.send(-1, 0, 1));
        EXPECT.no("3: user", x.send(4, 0, 1));
        EXPECT.no("3: to", x.send(0, 0, -1));
        EXPECT.no("3: to", x.send(0, 0, 4));
        EXPECT.no("3: the same", x.send(0, 0, 0));
        EXPECT.no("3: coin", x.send(0, -1, 1));
        EXPECT.no("3: coin", x.send(0, 1, 1));
        EXPECT.no("3: coin", x.send(0, 8, 1));
        EXPECT.no("3: coin", x.send(0, Integer.MAX_VALUE, 1));
        EXPECT.no("3: not held", x.send(1, 0, 2));
        EXPECT.same("3: nothing changed", x.user(0, 1), 1);
        EXPECT.yes("3: sent", x.send(0, 0, 1));
        EXPECT.no("3: held no more", x.send(0, 0, 1));
    }

    private static void sendReplacesWhatWaits() {
        CoinChild x = new CoinChild(5, 8);
        x.deposit(0, 5);
        x.send(0, 0, 1);
        EXPECT.same("3: taken back", x.accept(0, 0), 1);
        EXPECT.yes("3: sent anew", x.send(0, 0, 2));
        x.build(true, true);
        EXPECT.same("3: not the first", x.accept(1, 0), CoinChild.NOT_SO);
        EXPECT.same("3: the second", x.accept(2, 0), 2);
    }

    private static void forgeDrafts() {
        int seed = 41;
        CoinChild x = new CoinChild(seed, 8);
        x.deposit(0, 5);
        EXPECT.yes("4: first", x.forge(0, 1, 0, 1, 0));
        EXPECT.yes("4: in its place", x.forge(0, 31, 2, 2, 3));
        x.build(false, true);
        int signature = Hashes.signature(seed, 3, 0, 31, 2);
        EXPECT.same("4: leaf", x.block(2, 2), Hashes.transferLeaf(signature, 0, 31, 2, 2));
        EXPECT.yes("4: least prev", x.forge(0, 0, 3, 0, 3));
        x.build(false, true);
        signature = Hashes.signature(seed, 3, 0, 0, 0);
        EXPECT.same("4: leaf", x.block(3, 2), Hashes.transferLeaf(signature, 0, 0, 3, 0));
        EXPECT.same("4: holders do not change", x.user(0, 1), 1);
    }

    private static void forgeRefuses() {
        CoinChild x = new CoinChild(41, 8);
        EXPECT.no("4: no coin yet", x.forge(0, 1, 0, 1, 0));
        x.deposit(0, 5);
        EXPECT.no("4: coin", x.forge(-1, 1, 0, 1, 0));
        EXPECT.no("4: coin", x.forge(1, 1, 0, 1, 0));
        EXPECT.no("4: coin", x.forge(8, 1, 0, 1, 0));
        EXPECT.no("4: prev", x.forge(0, -1, 0, 1, 0));
        EXPECT.no("4: prev", x.forge(0, 32, 0, 1, 0));
        EXPECT.no("4: from", x.forge(0, 1, -1, 1, 0));
        EXPECT.no("4: from", x.forge(0, 1, 4, 1, 0));
        EXPECT.no("4: to", x.forge(0, 1, 0, -1, 0));
        EXPECT.no("4: to", x.forge(0, 1, 0, 4, 0));
        EXPECT.no("4: signer", x.forge(0, 1, 0, 1, -1));
        EXPECT.no("4: signer", x.forge(0, 1, 0, 1, 4));
        x.build(false, true);
        EXPECT.same("4: nothing drafted", x.block(2, 0), 0);
    }

    private static void honestBuildTakesOnlyWhatFits() {
        CoinChild x = new CoinChild(9, 8);
        x.deposit(0, 5);
        x.deposit(0, 5);
        x.deposit(0, 5);
        x.send(0, 0, 1);
        x.send(0, 1, 1);
        x.send(0, 2, 1);
        x.forge(1, 2, 0, 3, 0);
        EXPECT.same("5: the draft", x.build(false, true), 4);
        EXPECT.same("5: the honest one", x.build(true, true), 5);
        EXPECT.yes("5: fits", x.block(5, 2) != 0);
        EXPECT.same("5: PREV is not the latest", x.block(5, 3), 0);
        EXPECT.yes("5: fits", x.block(5, 4) != 0);
        EXPECT.same("5: none waits any more", x.build(true, true), 6);
        EXPECT.same("5: none waits any more", x.block(6, 0), 0);
        x.deposit(2, 5);
        x.forge(3, 7, 2, 2, 2);
        x.build(false, true);
        EXPECT.yes("5: sent with the PREV of old", x.send(2, 3, 1));
        x.build(true, true);
        EXPECT.same("5: PREV is not the latest, though FROM is its TO", x.block(9, 0), 0);
    }

    private static void honestBuildLooksAtExits() {
        CoinChild x = new CoinChild(9, 4);
        x.deposit(0, 5);
        x.send(0, 0, 1);
        x.exit(0, 0, 1);
        EXPECT.same("5: with an exit", x.build(true, true), 2);
        EXPECT.same("5: not put in", x.block(2, 0), 0);
        x.deposit(0, 5);
        x.exit(0, 1, 3);
        x.tick(4);
        x.finalise(1);
        EXPECT.yes("5: a coin that is gone is sent", x.send(0, 1, 2));
        x.build(true, true);
        EXPECT.same("5: not put in", x.block(4, 0), 0);
        EXPECT.yes("5: a coin that is gone is forged", x.forge(1, 3, 0, 2, 0));
        x.build(false, true);
        EXPECT.yes("5: the draft goes in", x.block(5, 3) != 0);
    }

    private static void buildKeepsDraftAndWaitingApart() {
        CoinChild x = new CoinChild(9, 8);
        x.deposit(0, 5);
        x.deposit(1, 5);
        x.send(0, 0, 1);
        x.forge(1, 2, 1, 0, 1);
        x.build(true, false);
        EXPECT.same("5: withheld", x.block(3, 1), 0);
        EXPECT.yes("5: has a root", x.block(3, 0) != 0);
        x.show(3);
        EXPECT.yes("5: what waited", x.block(3, 2) != 0);
        EXPECT.same("5: not the draft", x.block(3, 3), 0);
        x.build(false, true);
        EXPECT.same("5: shown", x.block(4, 1), 1);
        EXPECT.yes("5: the draft", x.block(4, 3) != 0);
        EXPECT.same("5: not what waited", x.block(4, 2), 0);
        x.build(false, true);
        EXPECT.same("5: the draft is empty then", x.block(5, 0), 0);
        x.accept(1, 0);
        x.send(1, 0, 3);
        x.build(false, true);
        EXPECT.same("5: what waits, waits on", x.block(6, 0), 0);
        x.build(true, true);
        EXPECT.same("5: and goes in", x.accept(3, 0), 7);
    }

    private static void buildIsFull() {
        CoinChild x = new CoinChild(9, 8);
        x.deposit(0, 5);
        for (int b = 2; b <= 24; b++) {
            EXPECT.same("5: number", x.build(b % 2 == 0, true), b);
        }
        EXPECT.same("5: full", x.build(true, true), CoinChild.FULL);
        EXPECT.same("5: full", x.build(false, false), CoinChild.FULL);
        EXPECT.same("5: no block more", x.block(25, 1), 0);
        EXPECT.same("5: the last stands", x.block(24, 1), 1);
    }

    private static void showShowsOnce() {
        CoinChild x = new CoinChild(9, 8);
        x.deposit(0, 5);
        EXPECT.no("6: a deposit is shown", x.show(1));
        x.build(true, false);
        x.build(true, true);
        EXPECT.no("6: none", x.show(0));
        EXPECT.no("6: none", x.show(-1));
        EXPECT.no("6: none", x.show(4));
        EXPECT.no("6: none", x.show(25));
        EXPECT.no("6: shown before", x.show(3));
        EXPECT.yes("6: withheld", x.show(2));
        EXPECT.same("6: shown", x.block(2, 1), 1);
        EXPECT.no("6: shown now", x.show(2));
    }

    private static void acceptTakesSoundHistories() {
        CoinChild x = new CoinChild(2, 8);
        x.deposit(0, 5);
        x.forge(0, 1, 0, 0, 0);
        x.build(false, true);
        EXPECT.same("7: to oneself", x.accept(0, 0), 2);
        EXPECT.same("7: held since", x.user(0, 1), 2);
        x.send(0, 0, 3);
        x.build(true, false);
        EXPECT.same("7: withheld", x.accept(3, 0), CoinChild.NOT_SO);
        x.show(3);
        EXPECT.same("7: shown", x.accept(3, 0), 3);
        x.build(true, false);
        EXPECT.same("7: a later block is withheld", x.accept(3, 0), CoinChild.NOT_SO);
        EXPECT.same("7: nothing changed", x.user(3, 1), 3);
        EXPECT.same("7: not the last", x.accept(0, 0), CoinChild.NOT_SO);
        x.show(4);
        EXPECT.same("7: not the last", x.accept(0, 0), CoinChild.NOT_SO);
        EXPECT.same("7: once more", x.accept(3, 0), 3);
    }

    private static void acceptRefusesUnsoundHistories() {
        EXPECT.same("7: good", acceptForged(1, 0, 0), 3);
        EXPECT.same("7: not signed by FROM", acceptForged(1, 0, 1), CoinChild.NOT_SO);
        EXPECT.same("7: FROM is not the TO ahead", acceptForged(1, 1, 1), CoinChild.NOT_SO);
        EXPECT.same("7: PREV without entry", acceptForged(2, 0, 0), CoinChild.NOT_SO);
        EXPECT.same("7: PREV is itself", acceptForged(3, 2, 2), CoinChild.NOT_SO);
        EXPECT.same("7: PREV later", acceptForged(4, 0, 0), CoinChild.NOT_SO);
        EXPECT.same("7: PREV 0", acceptForged(0, 0, 0), CoinChild.NOT_SO);
        CoinChild x = new CoinChild(2, 8);
        x.deposit(0, 5);
        x.forge(0, 1, 0, 1, 0);
        x.build(false, true);
        x.forge(0, 1, 0, 2, 0);
        x.build(false, true);
        EXPECT.same("7: spends not the one ahead", x.accept(2, 0), CoinChild.NOT_SO);
        x.forge(0, 3, 2, 3, 2);
        x.build(false, true);
        EXPECT.same("7: unsound further back", x.accept(3, 0), CoinChild.NOT_SO);
    }

    /** Deposits coin 0 in block 1 and coin 1 in block 2, forges a transfer of coin 0 to user 2. */
    private static int acceptForged(int prev, int from, int signer) {
        CoinChild x = new CoinChild(2, 8);
        x.deposit(0, 5);
        x.deposit(1, 5);
        x.forge(0, prev, from, 2, signer);
        x.build(false, true);
        return x.accept(2, 0);
    }

    private static void acceptLooksAtTheContract() {
        CoinChild x = new CoinChild(2, 4);
        EXPECT.same("7: no coin yet", x.accept(0, 0), CoinChild.BAD);
        x.deposit(0, 5);
        EXPECT.same("7: user", x.accept(-1, 0), CoinChild.BAD);
        EXPECT.same("7: user", x.accept(4, 0), CoinChild.BAD);
        EXPECT.same("7: coin", x.accept(0, -1), CoinChild.BAD);
        EXPECT.same("7: coin", x.accept(0, 1), CoinChild.BAD);
        EXPECT.same("7: coin", x.accept(0, 8), CoinChild.BAD);
        EXPECT.same("7: not TO", x.accept(1, 0), CoinChild.NOT_SO);
        EXPECT.same("7: TO", x.accept(0, 0), 1);
        x.exit(0, 0, 1);
        EXPECT.same("7: an exit is open", x.accept(0, 0), CoinChild.NOT_SO);
        x.tick(4);
        x.finalise(0);
        EXPECT.same("7: gone", x.accept(0, 0), CoinChild.NOT_SO);
        EXPECT.same("7: still held", x.user(0, 1), 1);
    }

    private static void acceptLooksAtTheLastBlock() {
        CoinChild x = new CoinChild(2, 8);
        x.deposit(0, 5);
        for (int b = 2; b < 24; b++) {
            x.build(true, true);
        }
        x.forge(0, 1, 3, 1, 3);
        EXPECT.same("7: the last block", x.build(false, true), 24);
        EXPECT.same("7: it is unsound", x.accept(1, 0), CoinChild.NOT_SO);
        EXPECT.same("7: it has the last entry", x.accept(0, 0), CoinChild.NOT_SO);
    }
}
