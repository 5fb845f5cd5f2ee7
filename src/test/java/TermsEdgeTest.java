import java.math.BigInteger;

/** The boundary cases that the document's section 'Terms' names, each in a test of its own. */
public final class TermsEdgeTest {
    private static final Expect EXPECT = new Expect("TermsEdgeTest");
    private static final BigInteger FACTOR = BigInteger.valueOf(1540483477);
    private static final BigInteger RANGE = BigInteger.ONE.shiftLeft(32);

    public static void main(String[] args) {
        mixWraps();
        signaturesAndLeavesWrap();
        nodesWrap();
        coinsComeOneByOne();
        blocksAreAtMostTwentyFour();
        aBlockHasOneEntryForACoin();
        aDepositBlockHasJustOneEntry();
        depositBlocksAreShown();
        aNodeIsZeroOnlyOverTwoZeros();
        aTransferIsGoodOnlyByItsFrom();
        withheldEntriesCountForExits();
        withheldEntriesCountForAfter();
        withheldEntriesCountForBetween();
        withheldEntriesCountForBeforeAndAnswers();
        spendsOnlyAnEarlierBlock();
        spendsNoBlockThatIsNotThere();
        spendsNoneWithoutAnEntry();
        spendsNoneThatIsNotGood();
        spendsOnlyWhatWentToItsFrom();
        spendsADepositToo();
        aCoinHasOneExit();
        exitsOfTwoCoinsAreApart();
        sameBondAtEachExit();
        anObjectHasFiveHundredAndTwelveCalls();
        EXPECT.end();
    }

    private static BigInteger unsigned(int n) {
        return BigInteger.valueOf(n).mod(RANGE);
    }

    /** MIX in whole numbers, cut to 32 bits where an int would wrap. */
    private static int wideMix(int k, int a, int b) {
        BigInteger h = unsigned(k).xor(unsigned(a)).multiply(FACTOR).mod(RANGE);
        h = h.xor(h.shiftRight(15)).xor(unsigned(b)).multiply(FACTOR).mod(RANGE);
        return h.xor(h.shiftRight(13)).intValue();
    }

    private static int wideSignature(int seed, int s, int coin, int prev, int to) {
        BigInteger mixed = unsigned(wideMix(wideMix(seed, s, 1), coin, 8 * prev + to));
        return mixed.multiply(BigInteger.valueOf(4)).add(BigInteger.valueOf(s)).intValue();
    }

    private static void mixWraps() {
        int[] numbers = {0, 1, -1, 7, 1 << 15, 1 << 31, Integer.MAX_VALUE, 1540483477, -1540483477};
        for (int k : numbers) {
            for (int a : numbers) {
                for (int b : numbers) {
                    EXPECT.same("MIX", Hashes.mix(k, a, b), wideMix(k, a, b));
                }
            }
        }
    }

    private static void signaturesAndLeavesWrap() {
        int[] seeds = {0, 1, -1, Integer.MIN_VALUE, Integer.MAX_VALUE, 0x5bd1e995, 123456789};
        int[] prevs = {0, 1, 15, 16, 24, 31};
        for (int seed : seeds) {
            for (int prev : prevs) {
                CoinChild x = new CoinChild(seed, 8);
                for (int c = 0; c < 8; c++) {
                    x.deposit(c % 4, 50 - c);
                    int leaf = wideMix(c, c % 4, 50 - c);
                    EXPECT.same("leaf of a deposit", x.block(c + 1, 2 + c), leaf);
                    x.forge(c, prev, 3 - c % 4, c / 2, c % 4);
                }
                x.build(false, true);
                for (int c = 0; c < 8; c++) {
                    int signature = wideSignature(seed, c % 4, c, prev, c / 2);
                    int leaf = wideMix(signature, 8 * prev + c, 4 * (3 - c % 4) + c / 2);
                    EXPECT.same("leaf of a transfer, seed " + seed, x.block(9, 2 + c), leaf);
                }
            }
        }
    }

    private static void nodesWrap() {
        for (int seed = 1; seed <= 64; seed++) {
            CoinChild x = new CoinChild(seed * 0x01234567, 8);
            x.deposit(0, 1);
            x.deposit(0, 1);
            x.forge(0, seed % 32, 0, 1, 2);
            x.forge(1, seed % 32, 0, 1, 3);
            x.build(false, true);
            int low = wideMix(x.block(3, 2), x.block(3, 3), 1);
            EXPECT.same("root", x.block(3, 0), wideMix(wideMix(low, 0, 2), 0, 3));
        }
    }

    private static void coinsComeOneByOne() {
        CoinChild x = new CoinChild(3, 8);
        for (int c = 0; c < 8; c++) {
            for (int later = c; later < 8; later++) {
                EXPECT.same("there is none yet", x.coin(later, 0), 0);
                EXPECT.no("none to forge", x.forge(later, 1, 0, 0, 0));
                EXPECT.same("none to accept", x.accept(0, later), CoinChild.BAD);
                EXPECT.same("none to exit", x.exit(0, later, 1), CoinChild.BAD);
            }
            EXPECT.same("the next number", x.deposit(c % 4, 1), c);
            EXPECT.same("held", x.coin(c, 0), 1);
        }
    }

    private static void blocksAreAtMostTwentyFour() {
        CoinChild x = new CoinChild(3, 8);
        EXPECT.same("a coin", x.deposit(0, 1), 0);
        for (int b = 2; b <= 24; b++) {
            EXPECT.same("no such block yet", x.exit(0, 0, b), CoinChild.BAD);
            EXPECT.same("one more", x.build(false, true), b);
            EXPECT.same("without an entry", x.exit(0, 0, b), CoinChild.UNPROVEN);
        }
        EXPECT.same("an operator's", x.build(false, true), CoinChild.FULL);
        EXPECT.same("a deposit", x.deposit(0, 1), CoinChild.FULL);
        EXPECT.same("there is no block 25", x.exit(0, 0, 25), CoinChild.BAD);
    }

    private static void aBlockHasOneEntryForACoin() {
        CoinChild x = new CoinChild(3, 8);
        x.deposit(0, 1);
        x.forge(0, 1, 0, 1, 0);
        x.forge(0, 1, 0, 2, 0);
        EXPECT.same("block", x.build(false, true), 2);
        EXPECT.same("not the first", x.exit(1, 0, 2), CoinChild.UNPROVEN);
        EXPECT.same("the second", x.exit(2, 0, 2), 0);
    }

    private static void aDepositBlockHasJustOneEntry() {
        CoinChild x = new CoinChild(3, 8);
        x.deposit(0, 1);
        x.deposit(0, 1);
        x.send(0, 0, 1);
        x.forge(1, 2, 0, 2, 0);
        EXPECT.same("amid what waits and a draft", x.deposit(3, 9), 2);
        for (int c = 0; c < 8; c++) {
            int due = c == 2 ? Hashes.depositLeaf(2, 3, 9) : 0;
            EXPECT.same("leaf " + c, x.block(3, 2 + c), due);
        }
        x.build(true, true);
        EXPECT.same("what waited waited on", x.accept(1, 0), 4);
        x.build(false, true);
        EXPECT.same("the draft was kept", x.accept(2, 1), 5);
    }

    private static void depositBlocksAreShown() {
        CoinChild x = new CoinChild(3, 8);
        x.build(true, false);
        x.deposit(0, 1);
        EXPECT.same("withheld ahead of it", x.block(1, 1), 0);
        EXPECT.same("shown", x.block(2, 1), 1);
        EXPECT.no("not to be shown", x.show(2));
    }

    private static void aNodeIsZeroOnlyOverTwoZeros() {
        for (int c = 0; c < 8; c++) {
            CoinChild x = new CoinChild(3, 8);
            for (int i = 0; i <= c; i++) {
                x.deposit(1, 2);
            }
            int leaf = Hashes.depositLeaf(c, 1, 2);
            int low = wideMix(leaf, 0, 1);
            int high = wideMix(low, 0, 2);
            EXPECT.same("root over one leaf", x.block(c + 1, 0), wideMix(high, 0, 3));
            EXPECT.same("node beside it", x.block(c + 1, 10 + 3 * (c ^ 2) + 1), low);
            EXPECT.same("node beside it", x.block(c + 1, 10 + 3 * (c ^ 4) + 2), high);
            EXPECT.same("over two zeros", x.block(c + 1, 10 + 3 * c + 1), 0);
            EXPECT.same("over four zeros", x.block(c + 1, 10 + 3 * c + 2), 0);
        }
    }

    private static void aTransferIsGoodOnlyByItsFrom() {
        for (int from = 0; from < 4; from++) {
            for (int signer = 0; signer < 4; signer++) {
                CoinChild x = new CoinChild(3, 8);
                x.deposit(from, 1);
                Chains.forged(x, 1, from, 2, signer, true);
                int due = signer == from ? 0 : CoinChild.UNPROVEN;
                EXPECT.same("from " + from + " by " + signer, x.exit(2, 0, 2), due);
            }
        }
    }

    private static void withheldEntriesCountForExits() {
        CoinChild x = new CoinChild(3, 8);
        x.deposit(0, 1);
        Chains.withheldTransfer(x, 1, 0, 1);
        Chains.withheldTransfer(x, 2, 1, 2);
        EXPECT.same("its own and A's are withheld", x.exit(2, 0, 3), 0);
        EXPECT.same("A", x.coin(0, 4), 2);
    }

    private static void withheldEntriesCountForAfter() {
        CoinChild x = new CoinChild(3, 8);
        x.deposit(0, 1);
        x.exit(0, 0, 1);
        Chains.withheldTransfer(x, 1, 0, 1);
        EXPECT.same("after", x.after(3, 0, 2), 0);
    }

    private static void withheldEntriesCountForBetween() {
        CoinChild x = new CoinChild(3, 8);
        x.deposit(0, 1);
        Chains.withheldTransfer(x, 1, 0, 1);
        Chains.transfer(x, 1, 0, 2);
        x.exit(2, 0, 3);
        EXPECT.same("between", x.between(3, 0, 2), 0);
    }

    private static void withheldEntriesCountForBeforeAndAnswers() {
        CoinChild x = new CoinChild(3, 8);
        x.deposit(0, 1);
        Chains.withheldTransfer(x, 1, 0, 1);
        Chains.withheldTransfer(x, 2, 1, 2);
        Chains.transfer(x, 3, 2, 3);
        x.exit(3, 0, 4);
        EXPECT.same("before", x.before(0, 0, 2), 0);
        EXPECT.same("answer", x.answer(0, 2, 3), 0);
        EXPECT.same("before", x.before(0, 0, 1), 0);
        EXPECT.same("answer", x.answer(0, 1, 2), 0);
    }

    /** Blocks 1: deposit to 0; 2: from 1 to 1, with PREV 3; 3: from 0 to 1, with PREV 1. */
    private static CoinChild backwards() {
        CoinChild x = new CoinChild(3, 8);
        x.deposit(0, 1);
        Chains.transfer(x, 3, 1, 1);
        Chains.transfer(x, 1, 0, 1);
        return x;
    }

    private static void spendsOnlyAnEarlierBlock() {
        CoinChild x = backwards();
        EXPECT.same("exit", x.exit(1, 0, 2), CoinChild.UNPROVEN);
        x.exit(1, 0, 3);
        EXPECT.same("after, by a block ahead of B", x.after(0, 0, 2), CoinChild.UNPROVEN);
        CoinChild y = backwards();
        Chains.transfer(y, 3, 1, 2);
        y.exit(2, 0, 4);
        EXPECT.same("between, by a block ahead of A", y.between(0, 0, 2), CoinChild.UNPROVEN);
        CoinChild z = backwards();
        Chains.transfer(z, 3, 1, 2);
        Chains.transfer(z, 4, 2, 3);
        z.exit(3, 0, 5);
        EXPECT.same("before", z.before(0, 0, 3), 0);
        EXPECT.same("answer, by a block ahead of b", z.answer(0, 3, 2), CoinChild.UNPROVEN);
        EXPECT.same("answer", z.answer(0, 3, 4), 0);
        CoinChild w = new CoinChild(3, 8);
        w.deposit(0, 1);
        Chains.transfer(w, 2, 0, 0);
        EXPECT.same("not itself", w.exit(0, 0, 2), CoinChild.UNPROVEN);
    }

    private static void spendsNoBlockThatIsNotThere() {
        for (int prev = 0; prev <= 31; prev++) {
            CoinChild x = new CoinChild(3, 8);
            x.deposit(0, 1);
            Chains.transfer(x, prev, 0, 1);
            int due = prev == 1 ? 0 : CoinChild.UNPROVEN;
            EXPECT.same("PREV " + prev, x.exit(1, 0, 2), due);
        }
    }

    private static void spendsNoneWithoutAnEntry() {
        CoinChild x = new CoinChild(3, 8);
        x.deposit(0, 1);
        x.deposit(0, 1);
        x.build(true, true);
        EXPECT.same("a block with another coin",
                x.exit(1, 0, Chains.transfer(x, 2, 0, 1)), CoinChild.UNPROVEN);
        EXPECT.same("an empty block",
                x.exit(1, 0, Chains.transfer(x, 3, 0, 1)), CoinChild.UNPROVEN);
        EXPECT.same("a block with the coin",
                x.exit(1, 0, Chains.transfer(x, 1, 0, 1)), 0);
    }

    private static void spendsNoneThatIsNotGood() {
        CoinChild x = new CoinChild(3, 8);
        x.deposit(0, 1);
        Chains.forged(x, 1, 0, 1, 1, true);
        EXPECT.same("not good", x.exit(2, 0, Chains.transfer(x, 2, 1, 2)), CoinChild.UNPROVEN);
        Chains.forged(x, 9, 3, 1, 3, true);
        EXPECT.same("good, though it spends none",
                x.exit(2, 0, Chains.transfer(x, 4, 1, 2)), 0);
    }

    private static void spendsOnlyWhatWentToItsFrom() {
        for (int to = 0; to < 4; to++) {
            for (int from = 0; from < 4; from++) {
                CoinChild x = new CoinChild(3, 8);
                x.deposit(0, 1);
                Chains.transfer(x, 1, 0, to);
                Chains.transfer(x, 2, from, 3);
                int due = from == to ? 0 : CoinChild.UNPROVEN;
                EXPECT.same("to " + to + " from " + from, x.exit(3, 0, 3), due);
            }
        }
    }

    private static void spendsADepositToo() {
        CoinChild x = new CoinChild(3, 8);
        x.deposit(0, 1);
        x.exit(0, 0, 1);
        EXPECT.same("a deposit spends none", x.after(1, 0, 1), CoinChild.UNPROVEN);
        Chains.transfer(x, 1, 0, 1);
        EXPECT.same("and is spent", x.after(1, 0, 2), 0);
    }

    private static void aCoinHasOneExit() {
        CoinChild x = Chains.handedOn(8);
        EXPECT.same("first", x.exit(3, 0, 4), 0);
        EXPECT.same("the same again", x.exit(3, 0, 4), CoinChild.NOT_SO);
        EXPECT.same("another", x.exit(0, 0, 1), CoinChild.NOT_SO);
        EXPECT.same("of the first", x.coin(0, 2), 4);
        EXPECT.same("one bond", x.user(3, 0), 90);
    }

    private static void exitsOfTwoCoinsAreApart() {
        CoinChild x = new CoinChild(3, 4);
        x.deposit(0, 1);
        x.deposit(0, 2);
        x.exit(0, 0, 1);
        x.tick(3);
        EXPECT.same("another coin's", x.exit(0, 1, 2), 0);
        x.tick(1);
        EXPECT.same("the first in time", x.finalise(0), 1);
        EXPECT.same("the second not", x.finalise(1), CoinChild.NOT_SO);
        EXPECT.same("the second is open", x.coin(1, 5), 3);
    }

    private static void sameBondAtEachExit() {
        CoinChild x = Chains.handedOn(8);
        for (int i = 1; i <= 8; i++) {
            EXPECT.same("exit", x.exit(0, 0, 1), 0);
            EXPECT.same("bond of ten", x.user(0, 0), 80 - 10 * i);
            EXPECT.same("locked", x.locked(), 30);
            EXPECT.same("after", x.after(1, 0, 2), 0);
        }
        EXPECT.same("no more", x.exit(0, 0, 1), CoinChild.POOR);
        EXPECT.same("all went over", x.user(1, 0), 180);
    }

    private static void anObjectHasFiveHundredAndTwelveCalls() {
        CoinChild x = new CoinChild(3, 8);
        x.deposit(0, 1);
        for (int i = 0; i < 509; i++) {
            x.forge(0, i % 32, i % 4, i / 4 % 4, i / 16 % 4);
        }
        EXPECT.same("call 511", x.build(false, true), 2);
        int signature = Hashes.signature(3, 508 / 16 % 4, 0, 508 % 32, 508 / 4 % 4);
        int leaf = Hashes.transferLeaf(signature, 0, 508 % 32, 0, 508 / 4 % 4);
        EXPECT.same("call 512", x.block(2, 2), leaf);
        CoinChild y = new CoinChild(3, 8);
        for (int i = 1; i <= 512; i++) {
            EXPECT.same("time does not wrap", y.tick(100), 100 * i);
        }
    }
}
