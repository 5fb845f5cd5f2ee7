/** Beginnings that several tests share. */
final class Chains {
    /** Numbers that are out of every range, however it is reckoned with. */
    private static final int[] FAR = {
        Integer.MIN_VALUE, Integer.MIN_VALUE + 1, -1 << 24, 1 << 24, Integer.MAX_VALUE - 1,
        Integer.MAX_VALUE};

    private Chains() {
    }

    /** Coin 0, of the value 20: to user 0 in block 1, to 1 in 2, to 2 in 3, to 3 in 4, all good. */
    static CoinChild handedOn(int period) {
        CoinChild x = new CoinChild(17, period);
        x.deposit(0, 20);
        for (int b = 1; b <= 3; b++) {
            transfer(x, b, b - 1, b);
        }
        return x;
    }

    /** Puts a good transfer of coin 0 into a block of its own, which is shown. */
    static int transfer(CoinChild x, int prev, int from, int to) {
        return forged(x, prev, from, to, from, true);
    }

    static int withheldTransfer(CoinChild x, int prev, int from, int to) {
        return forged(x, prev, from, to, from, false);
    }

    static int forged(CoinChild x, int prev, int from, int to, int signer, boolean shown) {
        x.forge(0, prev, from, to, signer);
        return x.build(false, shown);
    }

    static void emptyBlocks(CoinChild x, int count) {
        for (int i = 0; i < count; i++) {
            x.build(true, true);
        }
    }

    /** The numbers right below and right above a range, and those far out of it. */
    static int[] outside(int least, int most) {
        int[] all = new int[FAR.length + 2];
        System.arraycopy(FAR, 0, all, 2, FAR.length);
        all[0] = least - 1;
        all[1] = most + 1;
        return all;
    }
}
