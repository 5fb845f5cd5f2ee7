/** The boundary cases that promise 14 and the term WATCHING name, each in a test of its own. */
public final class WatchEdgeTest {
    private static final Expect EXPECT = new Expect("WatchEdgeTest");

    public static void main(String[] args) {
        watchOfNoUser();
        watchWithoutCoins();
        watchOfWhatWasSent();
        watchOfWhatIsGone();
        watchWithEachBlockWithheld();
        watchOfAllCoins();
        watchWithJustTen();
        watchWithNine();
        watchWithABondWonOnTheWay();
        watchWithABondWonTooLate();
        watchAgainstEachEarlierExit();
        watchAgainstEachDoubleSpend();
        watchAgainstExitsUponWhatIsHeld();
        watchAgainstExitsOverIt();
        watchAtTheLastMoment();
        watchWithJustTwo();
        watchWithOne();
        watchOfItsOwnExit();
        watchOfItsOwnOtherExit();
        watchAnswersMostChallenges();
        watchDoesOneThingForACoin();
        EXPECT.end();
    }

    private static void watchOfNoUser() {
        CoinChild x = new CoinChild(17, 8);
        x.deposit(0, 1);
        x.build(true, false);
        for (int u : Chains.outside(0, 3)) {
            EXPECT.same("14: user " + u, x.watch(u), CoinChild.BAD);
        }
        EXPECT.same("14: nothing was done", x.coin(0, 2), 0);
    }

    private static void watchWithoutCoins() {
        CoinChild x = new CoinChild(17, 8);
        for (int u = 0; u < 4; u++) {
            EXPECT.same("14: no coins", x.watch(u), 0);
        }
        x.deposit(0, 1);
        x.build(true, false);
        for (int u = 1; u < 4; u++) {
            EXPECT.same("14: held by another", x.watch(u), 0);
        }
    }

    private static void watchOfWhatWasSent() {
        CoinChild x = new CoinChild(17, 8);
        x.deposit(0, 1);
        x.send(0, 0, 1);
        x.build(true, false);
        EXPECT.same("14: not held any more", x.watch(0), 0);
        EXPECT.same("14: not held yet", x.watch(1), 0);
    }

    private static void watchOfWhatIsGone() {
        CoinChild x = new CoinChild(17, 4);
        x.deposit(0, 1);
        x.deposit(0, 1);
        x.exit(0, 0, 1);
        x.tick(4);
        x.finalise(0);
        x.build(true, false);
        EXPECT.same("14: the other one alone", x.watch(0), 1);
        EXPECT.same("14: the other one", x.coin(1, 2), 1);
        EXPECT.same("14: gone", x.coin(0, 2), 0);
    }

    private static void watchWithEachBlockWithheld() {
        for (int withheld = 1; withheld <= 24; withheld++) {
            CoinChild x = new CoinChild(17, 8);
            int h = 12;
            for (int b = 1; b <= 24; b++) {
                if (b == h) {
                    x.deposit(0, 1);
                } else {
                    x.build(true, b != withheld);
                }
            }
            EXPECT.same("14: withheld is " + withheld, x.watch(0), withheld > h ? 1 : 0);
            EXPECT.same("14: exits for h", x.coin(0, 3), withheld > h ? h : 0);
        }
    }

    private static void watchOfAllCoins() {
        CoinChild x = new CoinChild(17, 8);
        for (int c = 0; c < 8; c++) {
            x.deposit(2, 1);
        }
        x.build(true, false);
        EXPECT.same("14: eight", x.watch(2), 8);
        EXPECT.same("14: eight bonds", x.user(2, 0), 12);
    }

    /** User 1 holds coin 0 alone, with a block withheld since, and has this money left. */
    private static CoinChild withheldFrom(int left) {
        CoinChild x = new CoinChild(17, 8);
        x.deposit(0, 50);
        Chains.transfer(x, 1, 0, 1);
        x.accept(1, 0);
        x.deposit(1, 50);
        x.deposit(1, 50 - left);
        x.send(1, 1, 0);
        x.send(1, 2, 0);
        x.build(true, false);
        return x;
    }

    private static void watchWithJustTen() {
        CoinChild x = withheldFrom(10);
        EXPECT.same("14: just ten", x.watch(1), 1);
        EXPECT.same("14: nothing left", x.user(1, 0), 0);
    }

    private static void watchWithNine() {
        CoinChild x = withheldFrom(9);
        EXPECT.same("14: nine", x.watch(1), 0);
        EXPECT.same("14: nine still", x.user(1, 0), 9);
        EXPECT.same("14: none is open", x.coin(0, 2), 0);
    }

    /** User 1, without money, holds coins 0 and 1, one of them from 0, who exits it falsely. */
    private static CoinChild pennilessWith(int handedOn) {
        CoinChild x = new CoinChild(17, 8);
        for (int c = 0; c < 2; c++) {
            x.deposit(c == handedOn ? 0 : 1, 50);
        }
        x.send(0, handedOn, 1);
        x.build(true, true);
        x.accept(1, handedOn);
        x.deposit(1, 50);
        x.send(1, 2, 0);
        x.build(true, false);
        x.exit(0, handedOn, handedOn + 1);
        EXPECT.same("14: no money", x.user(1, 0), 0);
        return x;
    }

    private static void watchWithABondWonOnTheWay() {
        CoinChild x = pennilessWith(0);
        EXPECT.same("14: coin 0's bond pays for coin 1", x.watch(1), 2);
        EXPECT.same("14: cancelled", x.coin(0, 2), 0);
        EXPECT.same("14: open", x.coin(1, 2), 2);
        EXPECT.same("14: nothing left", x.user(1, 0), 0);
    }

    private static void watchWithABondWonTooLate() {
        CoinChild x = pennilessWith(1);
        EXPECT.same("14: coin 0 came ahead of coin 1's bond", x.watch(1), 1);
        EXPECT.same("14: none is open", x.coin(0, 2), 0);
        EXPECT.same("14: cancelled", x.coin(1, 2), 0);
        EXPECT.same("14: the bond", x.user(1, 0), 10);
        EXPECT.same("14: now coin 0", x.watch(1), 1);
        EXPECT.same("14: open", x.coin(0, 2), 2);
    }

    private static void watchAgainstEachEarlierExit() {
        for (int b = 1; b <= 3; b++) {
            CoinChild x = Chains.handedOn(8);
            x.accept(3, 0);
            x.exit(b - 1, 0, b);
            EXPECT.same("14: B is " + b, x.watch(3), 1);
            EXPECT.same("14: cancelled", x.coin(0, 2), 0);
            EXPECT.same("14: bond", x.user(3, 0), 110);
        }
    }

    private static void watchAgainstEachDoubleSpend() {
        for (int a = 1; a <= 4; a++) {
            CoinChild x = Chains.handedOn(8);
            x.accept(3, 0);
            Chains.transfer(x, a, a - 1, 2);
            EXPECT.same("14: exit", x.exit(2, 0, 5), 0);
            boolean stolen = a < 4;
            EXPECT.same("14: A is " + a, x.watch(3), stolen ? 1 : 0);
            EXPECT.same("14: is it cancelled", x.coin(0, 2), stolen ? 0 : 3);
            EXPECT.same("14: bond", x.user(3, 0), stolen ? 110 : 100);
        }
    }

    private static void watchAgainstExitsUponWhatIsHeld() {
        CoinChild x = Chains.handedOn(8);
        x.accept(3, 0);
        Chains.transfer(x, 4, 3, 1);
        x.exit(1, 0, 5);
        EXPECT.same("14: A is h: nothing", x.watch(3), 0);
        EXPECT.same("14: open", x.coin(0, 2), 2);
        EXPECT.same("14: no challenge", x.coin(0, 6), 0);
    }

    /** User 3 holds coin 0 since 4; in 5 it is stolen to 1, who hands it on to 2 in 6: exit. */
    private static CoinChild stolen() {
        CoinChild x = Chains.handedOn(9);
        x.accept(3, 0);
        Chains.transfer(x, 4, 1, 1);
        Chains.transfer(x, 5, 1, 2);
        EXPECT.same("14: exit", x.exit(2, 0, 6), 0);
        return x;
    }

    private static void watchAgainstExitsOverIt() {
        CoinChild x = stolen();
        EXPECT.same("14: A is right over h", x.watch(3), 1);
        EXPECT.same("14: challenged", x.coin(0, 6), 1);
        EXPECT.same("14: by h", x.before(0, 0, 4), CoinChild.NOT_SO);
        EXPECT.same("14: there was one", x.watch(3), 0);
        EXPECT.same("14: one bond", x.user(3, 0), 98);
    }

    private static void watchAtTheLastMoment() {
        CoinChild x = stolen();
        x.tick(4);
        EXPECT.same("14: in time", x.watch(3), 1);
        CoinChild y = stolen();
        y.tick(5);
        EXPECT.same("14: too late", y.watch(3), 0);
        EXPECT.same("14: no bond", y.user(3, 0), 100);
    }

    private static void watchWithJustTwo() {
        CoinChild x = stolen();
        x.deposit(3, 50);
        x.deposit(3, 48);
        EXPECT.same("14: just two", x.watch(3), 1);
        EXPECT.same("14: nothing left", x.user(3, 0), 0);
    }

    private static void watchWithOne() {
        CoinChild x = stolen();
        x.deposit(3, 50);
        x.deposit(3, 49);
        EXPECT.same("14: one", x.watch(3), 0);
        EXPECT.same("14: one still", x.user(3, 0), 1);
        EXPECT.same("14: no challenge", x.coin(0, 6), 0);
    }

    private static void watchOfItsOwnExit() {
        CoinChild x = Chains.handedOn(8);
        x.accept(3, 0);
        x.exit(3, 0, 4);
        x.build(true, false);
        EXPECT.same("14: its own, without challenges", x.watch(3), 0);
        x.before(0, 0, 2);
        EXPECT.same("14: its own, with one", x.watch(3), 1);
        EXPECT.same("14: answered", x.coin(0, 6), 0);
        EXPECT.same("14: bond", x.user(3, 0), 92);
    }

    private static void watchOfItsOwnOtherExit() {
        CoinChild x = new CoinChild(17, 8);
        x.deposit(0, 20);
        Chains.transfer(x, 1, 0, 0);
        EXPECT.same("14: held since 1 on", x.user(0, 1), 1);
        x.exit(0, 0, 2);
        EXPECT.same("14: its own, A is h", x.watch(0), 0);
        CoinChild y = new CoinChild(17, 8);
        y.deposit(0, 20);
        Chains.transfer(y, 1, 0, 0);
        y.accept(0, 0);
        y.exit(0, 0, 1);
        EXPECT.same("14: its own, B ahead of h", y.watch(0), 1);
        EXPECT.same("14: its own bond", y.user(0, 0), 80);
    }

    private static void watchAnswersMostChallenges() {
        CoinChild x = new CoinChild(17, 8);
        x.deposit(0, 20);
        for (int b = 2; b <= 24; b++) {
            Chains.transfer(x, b - 1, (b - 2) % 4, (b - 1) % 4);
        }
        x.accept(3, 0);
        x.exit(3, 0, 24);
        for (int b = 1; b <= 22; b++) {
            x.before(b % 3, 0, b);
        }
        EXPECT.same("14: by all blocks ahead of A", x.watch(3), 22);
        EXPECT.same("14: none is open", x.coin(0, 6), 0);
        EXPECT.same("14: bonds", x.user(3, 0), 134);
    }

    private static void watchDoesOneThingForACoin() {
        CoinChild x = Chains.handedOn(8);
        x.accept(3, 0);
        x.exit(2, 0, 3);
        x.build(true, false);
        EXPECT.same("14: the exit is cancelled", x.watch(3), 1);
        EXPECT.same("14: none is open", x.coin(0, 2), 0);
        EXPECT.same("14: the next time one's own", x.watch(3), 1);
        EXPECT.same("14: open", x.coin(0, 2), 4);
    }
}
