/** Promises 8 to 13: exit, after, between, before, answer, finalise. */
public final class ExitTest {
    private static final Expect EXPECT = new Expect("ExitTest");

    public static void main(String[] args) {
        exitOfDeposit();
        exitOfTransfer();
        exitRefuses();
        exitWantsAFoundedEntry();
        exitOfPoorUser();
        afterCancels();
        afterRefuses();
        betweenCancels();
        betweenRefuses();
        beforeOpensOneByBlock();
        beforeHasItsTime();
        beforeRefuses();
        beforeOfPoorUser();
        answerPaysTheExiter();
        answerRefuses();
        answerStaysUpToA();
        finaliseLetsGo();
        finaliseGivesToTheLeastBlock();
        cancelGivesBondsBack();
        newExitForgetsTheOldChallenges();
        EXPECT.end();
    }

    private static void open(String what, CoinChild x, int user, int target, int source) {
        EXPECT.same(what + ": user", x.coin(0, 2), user + 1);
        EXPECT.same(what + ": B", x.coin(0, 3), target);
        EXPECT.same(what + ": A", x.coin(0, 4), source);
    }

    private static void closed(String what, CoinChild x) {
        for (int k = 2; k <= 6; k++) {
            EXPECT.same(what + ": no exit", x.coin(0, k), 0);
        }
    }

    private static void exitOfDeposit() {
        CoinChild x = Chains.handedOn(8);
        x.tick(5);
        EXPECT.same("8: deposit", x.exit(0, 0, 1), 0);
        open("8: deposit", x, 0, 1, 0);
        EXPECT.same("8: start", x.coin(0, 5), 5);
        EXPECT.same("8: bond", x.user(0, 0), 70);
        EXPECT.same("8: locked", x.locked(), 30);
        EXPECT.same("8: held on", x.coin(0, 0), 1);
    }

    private static void exitOfTransfer() {
        CoinChild x = Chains.handedOn(8);
        EXPECT.same("8: transfer", x.exit(2, 0, 3), 0);
        open("8: transfer", x, 2, 3, 2);
        EXPECT.same("8: bond", x.user(2, 0), 90);
        CoinChild y = new CoinChild(17, 8);
        y.deposit(0, 1);
        y.forge(0, 1, 0, 1, 0);
        y.build(false, false);
        EXPECT.same("8: withheld ones count", y.exit(1, 0, 2), 0);
    }

    private static void exitRefuses() {
        CoinChild x = Chains.handedOn(4);
        EXPECT.same("8: user", x.exit(-1, 0, 1), CoinChild.BAD);
        EXPECT.same("8: user", x.exit(4, 0, 1), CoinChild.BAD);
        EXPECT.same("8: coin", x.exit(0, -1, 1), CoinChild.BAD);
        EXPECT.same("8: coin", x.exit(0, 1, 1), CoinChild.BAD);
        EXPECT.same("8: coin", x.exit(0, 8, 1), CoinChild.BAD);
        EXPECT.same("8: block", x.exit(0, 0, 0), CoinChild.BAD);
        EXPECT.same("8: block", x.exit(0, 0, -1), CoinChild.BAD);
        EXPECT.same("8: block", x.exit(0, 0, 5), CoinChild.BAD);
        EXPECT.same("8: block", x.exit(0, 0, 25), CoinChild.BAD);
        EXPECT.same("8: not TO", x.exit(0, 0, 2), CoinChild.UNPROVEN);
        x.exit(3, 0, 4);
        EXPECT.same("8: open, ahead of unproven", x.exit(0, 0, 2), CoinChild.NOT_SO);
        EXPECT.same("8: bad ahead of open", x.exit(0, 0, 5), CoinChild.BAD);
        x.tick(4);
        x.finalise(0);
        EXPECT.same("8: gone", x.exit(0, 0, 1), CoinChild.NOT_SO);
        EXPECT.same("8: no bond taken", x.user(0, 0), 80);
    }

    private static void exitWantsAFoundedEntry() {
        CoinChild x = new CoinChild(17, 8);
        x.deposit(0, 5);
        x.build(true, true);
        EXPECT.same("8: no entry", x.exit(0, 0, 2), CoinChild.UNPROVEN);
        x.forge(0, 1, 0, 1, 1);
        x.build(false, true);
        EXPECT.same("8: not good", x.exit(1, 0, 3), CoinChild.UNPROVEN);
        EXPECT.same("8: spends one not good",
                x.exit(2, 0, Chains.transfer(x, 3, 1, 2)), CoinChild.UNPROVEN);
        EXPECT.same("8: spends none",
                x.exit(2, 0, Chains.transfer(x, 2, 0, 2)), CoinChild.UNPROVEN);
        EXPECT.same("8: spends itself",
                x.exit(2, 0, Chains.transfer(x, 6, 2, 2)), CoinChild.UNPROVEN);
        EXPECT.same("8: spends a later one",
                x.exit(2, 0, Chains.transfer(x, 8, 2, 2)), CoinChild.UNPROVEN);
        Chains.transfer(x, 1, 0, 2);
        EXPECT.same("8: later one stands", x.exit(2, 0, 7), CoinChild.UNPROVEN);
        EXPECT.same("8: FROM is another",
                x.exit(3, 0, Chains.transfer(x, 8, 1, 3)), CoinChild.UNPROVEN);
        EXPECT.same("8: PREV 0", x.exit(3, 0, Chains.transfer(x, 0, 0, 3)), CoinChild.UNPROVEN);
        EXPECT.same("8: PREV 31", x.exit(3, 0, Chains.transfer(x, 31, 0, 3)), CoinChild.UNPROVEN);
        EXPECT.same("8: a second spending", x.exit(2, 0, 8), 0);
    }

    private static void exitOfPoorUser() {
        CoinChild x = new CoinChild(17, 8);
        x.deposit(0, 50);
        x.deposit(0, 40);
        EXPECT.same("8: just enough", x.exit(0, 0, 1), 0);
        EXPECT.same("8: nothing left", x.user(0, 0), 0);
        EXPECT.same("8: poor", x.exit(0, 1, 2), CoinChild.POOR);
        EXPECT.same("8: unproven ahead of poor", x.exit(0, 1, 1), CoinChild.UNPROVEN);
        EXPECT.same("8: not open", x.coin(1, 2), 0);
        CoinChild y = new CoinChild(17, 8);
        y.deposit(0, 50);
        y.deposit(0, 41);
        EXPECT.same("8: nine", y.exit(0, 0, 1), CoinChild.POOR);
    }

    private static void afterCancels() {
        CoinChild x = Chains.handedOn(8);
        x.exit(1, 0, 2);
        EXPECT.same("9: after", x.after(3, 0, 3), 0);
        closed("9: cancelled", x);
        EXPECT.same("9: bond", x.user(3, 0), 110);
        EXPECT.same("9: bond lost", x.user(1, 0), 90);
        EXPECT.same("9: held on", x.coin(0, 0), 1);
        EXPECT.same("9: locked", x.locked(), 20);
        x.exit(0, 0, 1);
        x.tick(100);
        EXPECT.same("9: at any time, by anyone", x.after(0, 0, 2), 0);
        EXPECT.same("9: own bond", x.user(0, 0), 80);
    }

    private static void afterRefuses() {
        CoinChild x = Chains.handedOn(8);
        EXPECT.same("9: none open", x.after(3, 0, 3), CoinChild.NOT_SO);
        x.exit(1, 0, 2);
        EXPECT.same("9: user", x.after(-1, 0, 3), CoinChild.BAD);
        EXPECT.same("9: user", x.after(4, 0, 3), CoinChild.BAD);
        EXPECT.same("9: coin", x.after(0, -1, 3), CoinChild.BAD);
        EXPECT.same("9: coin", x.after(0, 1, 3), CoinChild.BAD);
        EXPECT.same("9: block", x.after(0, 0, 0), CoinChild.BAD);
        EXPECT.same("9: block", x.after(0, 0, 5), CoinChild.BAD);
        EXPECT.same("9: ahead", x.after(0, 0, 1), CoinChild.UNPROVEN);
        EXPECT.same("9: itself", x.after(0, 0, 2), CoinChild.UNPROVEN);
        EXPECT.same("9: spends another", x.after(0, 0, 4), CoinChild.UNPROVEN);
        x.forge(0, 2, 1, 3, 3);
        x.build(false, true);
        EXPECT.same("9: not good", x.after(0, 0, 5), CoinChild.UNPROVEN);
        EXPECT.same("9: another FROM",
                x.after(0, 0, Chains.transfer(x, 2, 0, 3)), CoinChild.UNPROVEN);
        x.build(true, true);
        EXPECT.same("9: no entry", x.after(0, 0, 7), CoinChild.UNPROVEN);
        open("9: still open", x, 1, 2, 1);
    }

    private static void betweenCancels() {
        CoinChild x = Chains.handedOn(8);
        Chains.transfer(x, 2, 1, 0);
        EXPECT.same("10: exit of a double spend", x.exit(0, 0, 5), 0);
        EXPECT.same("10: between", x.between(2, 0, 3), 0);
        closed("10: cancelled", x);
        EXPECT.same("10: bond", x.user(2, 0), 110);
        EXPECT.same("10: bond lost", x.user(0, 0), 70);
    }

    private static void betweenRefuses() {
        CoinChild x = Chains.handedOn(8);
        Chains.transfer(x, 2, 1, 0);
        EXPECT.same("10: none open", x.between(2, 0, 3), CoinChild.NOT_SO);
        x.exit(0, 0, 1);
        EXPECT.same("10: A is 0", x.between(2, 0, 2), CoinChild.UNPROVEN);
        x.after(0, 0, 2);
        x.exit(2, 0, 3);
        EXPECT.same("10: user", x.between(4, 0, 3), CoinChild.BAD);
        EXPECT.same("10: user", x.between(-1, 0, 3), CoinChild.BAD);
        EXPECT.same("10: coin", x.between(0, 1, 3), CoinChild.BAD);
        EXPECT.same("10: block", x.between(0, 0, 0), CoinChild.BAD);
        EXPECT.same("10: block", x.between(0, 0, 6), CoinChild.BAD);
        EXPECT.same("10: B itself", x.between(0, 0, 3), CoinChild.UNPROVEN);
        EXPECT.same("10: later than B", x.between(0, 0, 5), CoinChild.UNPROVEN);
        EXPECT.same("10: A itself", x.between(0, 0, 2), CoinChild.UNPROVEN);
        EXPECT.same("10: ahead of A", x.between(0, 0, 1), CoinChild.UNPROVEN);
        open("10: still open", x, 2, 3, 2);
    }

    private static void beforeOpensOneByBlock() {
        CoinChild x = Chains.handedOn(8);
        x.exit(3, 0, 4);
        EXPECT.same("11: by 1", x.before(0, 0, 1), 0);
        EXPECT.same("11: by 2", x.before(1, 0, 2), 0);
        EXPECT.same("11: two are open", x.coin(0, 6), 2);
        EXPECT.same("11: bond", x.user(0, 0), 78);
        EXPECT.same("11: bond", x.user(1, 0), 98);
        EXPECT.same("11: locked", x.locked(), 34);
        EXPECT.same("11: by 1 again", x.before(2, 0, 1), CoinChild.NOT_SO);
        x.answer(0, 1, 2);
        EXPECT.same("11: answered", x.coin(0, 6), 1);
        EXPECT.same("11: there was one by 1", x.before(0, 0, 1), CoinChild.NOT_SO);
    }

    private static void beforeHasItsTime() {
        CoinChild x = Chains.handedOn(9);
        x.tick(7);
        x.exit(3, 0, 4);
        x.tick(4);
        EXPECT.same("11: in time", x.before(0, 0, 1), 0);
        x.tick(1);
        EXPECT.same("11: too late", x.before(0, 0, 2), CoinChild.NOT_SO);
        EXPECT.same("11: too late ahead of unproven", x.before(0, 0, 4), CoinChild.NOT_SO);
        EXPECT.same("11: bad ahead of too late", x.before(0, 0, 5), CoinChild.BAD);
    }

    private static void beforeRefuses() {
        CoinChild x = Chains.handedOn(8);
        EXPECT.same("11: none open", x.before(0, 0, 1), CoinChild.NOT_SO);
        x.forge(0, 4, 3, 0, 1);
        x.build(false, true);
        x.build(true, true);
        Chains.transfer(x, 4, 3, 1);
        Chains.transfer(x, 7, 1, 2);
        EXPECT.same("11: exit", x.exit(2, 0, 8), 0);
        EXPECT.same("11: user", x.before(-1, 0, 1), CoinChild.BAD);
        EXPECT.same("11: user", x.before(4, 0, 1), CoinChild.BAD);
        EXPECT.same("11: coin", x.before(0, 1, 1), CoinChild.BAD);
        EXPECT.same("11: block", x.before(0, 0, 0), CoinChild.BAD);
        EXPECT.same("11: block", x.before(0, 0, 9), CoinChild.BAD);
        EXPECT.same("11: not good", x.before(0, 0, 5), CoinChild.UNPROVEN);
        EXPECT.same("11: no entry", x.before(0, 0, 6), CoinChild.UNPROVEN);
        EXPECT.same("11: A itself", x.before(0, 0, 7), CoinChild.UNPROVEN);
        EXPECT.same("11: B itself", x.before(0, 0, 8), CoinChild.UNPROVEN);
        EXPECT.same("11: none is open", x.coin(0, 6), 0);
        EXPECT.same("11: no bond taken", x.user(0, 0), 80);
        EXPECT.same("11: right ahead of A", x.before(0, 0, 4), 0);
        CoinChild y = Chains.handedOn(8);
        y.exit(0, 0, 1);
        EXPECT.same("11: a deposit has nothing ahead", y.before(1, 0, 1), CoinChild.UNPROVEN);
    }

    private static void beforeOfPoorUser() {
        CoinChild x = Chains.handedOn(8);
        x.deposit(1, 50);
        x.deposit(1, 48);
        x.exit(3, 0, 4);
        EXPECT.same("11: just enough", x.before(1, 0, 1), 0);
        EXPECT.same("11: poor", x.before(1, 0, 2), CoinChild.POOR);
        EXPECT.same("11: unproven ahead of poor", x.before(1, 0, 3), CoinChild.UNPROVEN);
        EXPECT.same("11: not so ahead of poor", x.before(1, 0, 1), CoinChild.NOT_SO);
        EXPECT.same("11: another may", x.before(0, 0, 2), 0);
    }

    private static void answerPaysTheExiter() {
        CoinChild x = Chains.handedOn(8);
        x.exit(3, 0, 4);
        x.before(0, 0, 1);
        x.before(0, 0, 2);
        x.tick(50);
        EXPECT.same("12: answered", x.answer(0, 1, 2), 0);
        EXPECT.same("12: bond", x.user(3, 0), 92);
        EXPECT.same("12: one is open", x.coin(0, 6), 1);
        EXPECT.same("12: locked", x.locked(), 32);
        EXPECT.same("12: once only", x.answer(0, 1, 2), CoinChild.NOT_SO);
        EXPECT.same("12: with A itself", x.answer(0, 2, 3), 0);
        EXPECT.same("12: finalises", x.finalise(0), 1);
        EXPECT.same("12: value and bonds", x.user(3, 0), 124);
        EXPECT.same("12: the challenger's loss", x.user(0, 0), 76);
    }

    private static void answerRefuses() {
        CoinChild x = Chains.handedOn(8);
        EXPECT.same("12: none open", x.answer(0, 1, 2), CoinChild.NOT_SO);
        x.exit(3, 0, 4);
        EXPECT.same("12: no challenge", x.answer(0, 1, 2), CoinChild.NOT_SO);
        x.before(0, 0, 1);
        EXPECT.same("12: coin", x.answer(-1, 1, 2), CoinChild.BAD);
        EXPECT.same("12: coin", x.answer(1, 1, 2), CoinChild.BAD);
        EXPECT.same("12: coin", x.answer(8, 1, 2), CoinChild.BAD);
        EXPECT.same("12: block", x.answer(0, 0, 2), CoinChild.BAD);
        EXPECT.same("12: block", x.answer(0, 5, 2), CoinChild.BAD);
        EXPECT.same("12: block", x.answer(0, 1, 0), CoinChild.BAD);
        EXPECT.same("12: block", x.answer(0, 1, 5), CoinChild.BAD);
        EXPECT.same("12: bad ahead of not so", x.answer(0, 2, 5), CoinChild.BAD);
        EXPECT.same("12: another block", x.answer(0, 2, 3), CoinChild.NOT_SO);
        EXPECT.same("12: spends another", x.answer(0, 1, 3), CoinChild.UNPROVEN);
        EXPECT.same("12: itself", x.answer(0, 1, 1), CoinChild.UNPROVEN);
        x.after(1, 0, 4);
        EXPECT.same("12: still open", x.coin(0, 6), 1);
    }

    private static void answerStaysUpToA() {
        CoinChild x = new CoinChild(17, 8);
        x.deposit(0, 20);
        x.forge(0, 1, 2, 2, 2);
        x.build(false, true);
        Chains.transfer(x, 2, 2, 3);
        Chains.transfer(x, 1, 0, 1);
        EXPECT.same("12: exit on stolen ground", x.exit(3, 0, 3), 0);
        EXPECT.same("12: challenge", x.before(0, 0, 1), 0);
        EXPECT.same("12: spends it, but later than A", x.answer(0, 1, 4), CoinChild.UNPROVEN);
        EXPECT.same("12: another FROM", x.answer(0, 1, 2), CoinChild.UNPROVEN);
        x.tick(8);
        EXPECT.same("13: the challenge wins", x.finalise(0), 0);
        EXPECT.same("13: its bonds", x.user(0, 0), 90);
    }

    private static void finaliseLetsGo() {
        CoinChild x = Chains.handedOn(8);
        EXPECT.same("13: none open", x.finalise(0), CoinChild.NOT_SO);
        EXPECT.same("13: coin", x.finalise(-1), CoinChild.BAD);
        EXPECT.same("13: coin", x.finalise(1), CoinChild.BAD);
        EXPECT.same("13: coin", x.finalise(8), CoinChild.BAD);
        x.tick(3);
        x.exit(3, 0, 4);
        x.tick(7);
        EXPECT.same("13: not time", x.finalise(0), CoinChild.NOT_SO);
        x.tick(1);
        EXPECT.same("13: time", x.finalise(0), 1);
        closed("13: gone", x);
        EXPECT.same("13: gone", x.coin(0, 0), 2);
        EXPECT.same("13: value stays", x.coin(0, 1), 20);
        EXPECT.same("13: money", x.user(3, 0), 120);
        EXPECT.same("13: locked", x.locked(), 0);
        EXPECT.same("13: once only", x.finalise(0), CoinChild.NOT_SO);
        EXPECT.same("13: no challenge any more", x.after(0, 0, 2), CoinChild.NOT_SO);
    }

    private static void finaliseGivesToTheLeastBlock() {
        CoinChild x = Chains.handedOn(8);
        x.exit(3, 0, 4);
        x.before(2, 0, 2);
        x.before(1, 0, 1);
        x.tick(8);
        EXPECT.same("13: cancelled", x.finalise(0), 0);
        closed("13: cancelled", x);
        EXPECT.same("13: still held", x.coin(0, 0), 1);
        EXPECT.same("13: the least block's", x.user(1, 0), 110);
        EXPECT.same("13: bond back", x.user(2, 0), 100);
        EXPECT.same("13: bond lost", x.user(3, 0), 90);
        x.exit(3, 0, 4);
        x.before(1, 0, 1);
        x.before(2, 0, 2);
        x.answer(0, 1, 2);
        x.tick(8);
        EXPECT.same("13: cancelled", x.finalise(0), 0);
        EXPECT.same("13: answered ones do not count", x.user(1, 0), 108);
        EXPECT.same("13: the one that is open", x.user(2, 0), 110);
        EXPECT.same("13: bond lost, one won", x.user(3, 0), 82);
    }

    private static void cancelGivesBondsBack() {
        CoinChild x = Chains.handedOn(8);
        Chains.transfer(x, 4, 3, 0);
        x.exit(3, 0, 4);
        x.before(1, 0, 1);
        x.before(1, 0, 2);
        EXPECT.same("9: after", x.after(2, 0, 5), 0);
        EXPECT.same("9: both bonds back", x.user(1, 0), 100);
        EXPECT.same("9: only the exit's bond", x.user(2, 0), 110);
        EXPECT.same("9: no challenge is left", x.answer(0, 1, 2), CoinChild.NOT_SO);
        EXPECT.same("9: locked", x.locked(), 20);
    }

    private static void newExitForgetsTheOldChallenges() {
        CoinChild x = Chains.handedOn(8);
        Chains.transfer(x, 4, 3, 0);
        x.exit(3, 0, 4);
        x.before(1, 0, 1);
        x.before(1, 0, 2);
        x.answer(0, 1, 2);
        x.after(2, 0, 5);
        x.tick(20);
        EXPECT.same("8: again", x.exit(3, 0, 4), 0);
        EXPECT.same("8: start", x.coin(0, 5), 20);
        EXPECT.same("8: none is open", x.coin(0, 6), 0);
        EXPECT.same("11: none by 1 in this exit", x.before(1, 0, 1), 0);
        EXPECT.same("11: none by 2 in this exit", x.before(1, 0, 2), 0);
    }
}
