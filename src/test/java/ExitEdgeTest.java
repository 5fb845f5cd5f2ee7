/** The boundary cases that promises 8 to 13 name, each in a test of its own. */
public final class ExitEdgeTest {
    private static final Expect EXPECT = new Expect("ExitEdgeTest");
    private static final int BAD = CoinChild.BAD;
    private static final int POOR = CoinChild.POOR;
    private static final int NOT_SO = CoinChild.NOT_SO;
    private static final int UNPROVEN = CoinChild.UNPROVEN;

    public static void main(String[] args) {
        exitOfNoUserCoinOrBlock();
        exitOfWhatIsGone();
        exitOfEachEntryByEachUser();
        exitOfOneInTheLastBlock();
        exitWithJustTen();
        exitWithNine();
        exitNamesItsFirstRefusal();
        exitRefusedChangesNothing();
        afterOfNoUserCoinOrBlock();
        afterWithoutAnExit();
        afterWithEachBlock();
        afterNamesItsFirstRefusal();
        afterByOneselfAndWithoutMoney();
        betweenOfNoUserCoinOrBlock();
        betweenWithoutAnExit();
        betweenOfADeposit();
        betweenWithEachBlock();
        betweenNamesItsFirstRefusal();
        betweenGivesBondsBack();
        beforeOfNoUserCoinOrBlock();
        beforeWithoutAnExit();
        beforeWithEachBlock();
        beforeOfADeposit();
        beforeAtTheLastMoment();
        beforeTwiceByABlock();
        beforeWithJustTwo();
        beforeWithOne();
        beforeNamesItsFirstRefusal();
        beforeOfMostBlocks();
        answerOfNoCoinOrBlock();
        answerOfNoChallenge();
        answerWithEachBlock();
        answerAfterTheTime();
        answerNamesItsFirstRefusal();
        answerRefusedChangesNothing();
        finaliseOfNoCoin();
        finaliseWithoutAnExit();
        finaliseAtEachTime();
        finaliseLongAfter();
        finaliseWithTheLeastOfMany();
        finaliseWithEveryChallengeAnswered();
        finaliseRefusedChangesNothing();
        EXPECT.end();
    }

    /** A call of the form that exit and the challenges share. */
    private interface Form {
        int make(CoinChild x, int u, int c, int b);
    }

    /** The state has coin 0 alone and blocks up to last; user 0, coin 0 and block 1 would do. */
    private static void badNumbers(String what, CoinChild x, int last, Form call) {
        for (int u : Chains.outside(0, 3)) {
            EXPECT.same(what + ": user " + u, call.make(x, u, 0, 1), BAD);
        }
        for (int c : Chains.outside(0, 7)) {
            EXPECT.same(what + ": coin " + c, call.make(x, 0, c, 1), BAD);
        }
        for (int c = 1; c <= 7; c++) {
            EXPECT.same(what + ": no coin " + c + " yet", call.make(x, 0, c, 1), BAD);
        }
        for (int b : Chains.outside(1, 24)) {
            EXPECT.same(what + ": block " + b, call.make(x, 0, 0, b), BAD);
        }
        for (int b = last + 1; b <= 24; b++) {
            EXPECT.same(what + ": no block " + b + " yet", call.make(x, 0, 0, b), BAD);
        }
    }

    /** As Chains.handedOn, and user u has just this money left, of which he or she had 100. */
    private static CoinChild handedOnWith(int u, int left) {
        CoinChild x = Chains.handedOn(8);
        x.deposit(u, 50);
        x.deposit(u, x.user(u, 0) - left);
        EXPECT.same("money left", x.user(u, 0), left);
        return x;
    }

    private static void exitOfNoUserCoinOrBlock() {
        badNumbers("8", Chains.handedOn(8), 4, CoinChild::exit);
    }

    private static void exitOfWhatIsGone() {
        CoinChild x = Chains.handedOn(4);
        x.exit(3, 0, 4);
        x.tick(4);
        x.finalise(0);
        for (int b = 1; b <= 4; b++) {
            EXPECT.same("8: gone", x.exit(b - 1, 0, b), NOT_SO);
        }
    }

    private static void exitOfEachEntryByEachUser() {
        for (int b = 1; b <= 4; b++) {
            for (int u = 0; u < 4; u++) {
                CoinChild x = Chains.handedOn(8);
                int due = u == b - 1 ? 0 : UNPROVEN;
                EXPECT.same("8: block " + b + " by " + u, x.exit(u, 0, b), due);
                EXPECT.same("8: A", x.coin(0, 4), due == 0 ? b - 1 : 0);
            }
        }
    }

    private static void exitOfOneInTheLastBlock() {
        CoinChild x = Chains.handedOn(8);
        Chains.emptyBlocks(x, 19);
        EXPECT.same("8: block 24", Chains.transfer(x, 4, 3, 2), 24);
        EXPECT.same("8: exit", x.exit(2, 0, 24), 0);
        EXPECT.same("8: B", x.coin(0, 3), 24);
        EXPECT.same("8: A", x.coin(0, 4), 4);
    }

    private static void exitWithJustTen() {
        CoinChild x = handedOnWith(3, 10);
        EXPECT.same("8: just ten", x.exit(3, 0, 4), 0);
        EXPECT.same("8: nothing left", x.user(3, 0), 0);
    }

    private static void exitWithNine() {
        CoinChild x = handedOnWith(3, 9);
        EXPECT.same("8: nine", x.exit(3, 0, 4), POOR);
        EXPECT.same("8: nine still", x.user(3, 0), 9);
        EXPECT.same("8: none is open", x.coin(0, 2), 0);
    }

    private static void exitNamesItsFirstRefusal() {
        CoinChild x = handedOnWith(3, 9);
        EXPECT.same("8: bad ahead of poor", x.exit(3, 0, 7), BAD);
        EXPECT.same("8: unproven ahead of poor", x.exit(3, 0, 3), UNPROVEN);
        x.exit(0, 0, 1);
        EXPECT.same("8: not so ahead of poor", x.exit(3, 0, 4), NOT_SO);
        EXPECT.same("8: not so ahead of unproven", x.exit(1, 0, 4), NOT_SO);
        EXPECT.same("8: not so ahead of unproven and poor", x.exit(3, 0, 3), NOT_SO);
        EXPECT.same("8: bad ahead of not so", x.exit(4, 0, 4), BAD);
        EXPECT.same("8: bad ahead of not so", x.exit(3, 0, 0), BAD);
    }

    private static void exitRefusedChangesNothing() {
        CoinChild x = Chains.handedOn(8);
        x.exit(3, 0, 4);
        x.before(2, 0, 1);
        x.tick(3);
        x.exit(3, 0, 4);
        x.exit(0, 0, 1);
        EXPECT.same("8: user", x.coin(0, 2), 4);
        EXPECT.same("8: start", x.coin(0, 5), 0);
        EXPECT.same("8: the challenge stays", x.coin(0, 6), 1);
        EXPECT.same("8: there was one by 1", x.before(2, 0, 1), NOT_SO);
        EXPECT.same("8: no bond", x.user(0, 0), 80);
    }

    private static CoinChild exitOfSecond() {
        CoinChild x = Chains.handedOn(8);
        x.exit(1, 0, 2);
        return x;
    }

    private static void afterOfNoUserCoinOrBlock() {
        badNumbers("9", exitOfSecond(), 4, CoinChild::after);
        badNumbers("9, none open", Chains.handedOn(8), 4, CoinChild::after);
    }

    private static void afterWithoutAnExit() {
        CoinChild x = Chains.handedOn(4);
        EXPECT.same("9: none yet", x.after(0, 0, 3), NOT_SO);
        x.exit(1, 0, 2);
        EXPECT.same("9: open", x.after(0, 0, 3), 0);
        EXPECT.same("9: cancelled", x.after(0, 0, 3), NOT_SO);
        x.exit(1, 0, 2);
        x.tick(4);
        EXPECT.same("9: finalised", x.finalise(0), 1);
        EXPECT.same("9: gone", x.after(0, 0, 3), NOT_SO);
    }

    private static void afterWithEachBlock() {
        for (int b = 1; b <= 4; b++) {
            EXPECT.same("9: block " + b, exitOfSecond().after(0, 0, b), b == 3 ? 0 : UNPROVEN);
        }
        CoinChild x = exitOfSecond();
        Chains.emptyBlocks(x, 19);
        EXPECT.same("9: block 24", Chains.transfer(x, 2, 1, 0), 24);
        EXPECT.same("9: a second spending, in the last block", x.after(0, 0, 24), 0);
    }

    private static void afterNamesItsFirstRefusal() {
        CoinChild x = Chains.handedOn(8);
        EXPECT.same("9: bad ahead of not so", x.after(4, 0, 3), BAD);
        EXPECT.same("9: bad ahead of not so", x.after(0, 0, 5), BAD);
        EXPECT.same("9: not so ahead of unproven", x.after(0, 0, 1), NOT_SO);
        x.exit(1, 0, 2);
        EXPECT.same("9: bad ahead of unproven", x.after(4, 0, 1), BAD);
    }

    private static void afterByOneselfAndWithoutMoney() {
        CoinChild x = handedOnWith(2, 0);
        x.exit(1, 0, 2);
        EXPECT.same("9: no money is asked", x.after(2, 0, 3), 0);
        EXPECT.same("9: bond", x.user(2, 0), 10);
        x.exit(1, 0, 2);
        EXPECT.same("9: one's own exit", x.after(1, 0, 3), 0);
        EXPECT.same("9: one's own bond", x.user(1, 0), 90);
    }

    /** Block 5 spends block 2's entry a second time, after block 3; user 0 exits for it. */
    private static CoinChild exitOfDoubleSpend() {
        CoinChild x = Chains.handedOn(8);
        Chains.transfer(x, 2, 1, 0);
        x.exit(0, 0, 5);
        return x;
    }

    private static void betweenOfNoUserCoinOrBlock() {
        badNumbers("10", exitOfDoubleSpend(), 5, CoinChild::between);
        badNumbers("10, none open", Chains.handedOn(8), 4, CoinChild::between);
    }

    private static void betweenWithoutAnExit() {
        CoinChild x = exitOfDoubleSpend();
        EXPECT.same("10: open", x.between(3, 0, 3), 0);
        EXPECT.same("10: cancelled", x.between(3, 0, 3), NOT_SO);
    }

    private static void betweenOfADeposit() {
        CoinChild x = Chains.handedOn(8);
        Chains.transfer(x, 0, 0, 0);
        x.exit(0, 0, 1);
        for (int b = 1; b <= 5; b++) {
            EXPECT.same("10: A is 0", x.between(2, 0, b), UNPROVEN);
        }
    }

    private static void betweenWithEachBlock() {
        for (int b = 1; b <= 5; b++) {
            int due = b == 3 ? 0 : UNPROVEN;
            EXPECT.same("10: block " + b, exitOfDoubleSpend().between(3, 0, b), due);
        }
        CoinChild x = Chains.handedOn(8);
        Chains.transfer(x, 2, 1, 0);
        x.exit(2, 0, 3);
        EXPECT.same("10: B itself spends A's", x.between(3, 0, 3), UNPROVEN);
        EXPECT.same("10: a later one spends A's", x.between(3, 0, 5), UNPROVEN);
    }

    private static void betweenNamesItsFirstRefusal() {
        CoinChild x = Chains.handedOn(8);
        EXPECT.same("10: bad ahead of not so", x.between(4, 0, 3), BAD);
        EXPECT.same("10: not so ahead of unproven", x.between(0, 0, 1), NOT_SO);
        x.exit(0, 0, 1);
        EXPECT.same("10: bad ahead of unproven", x.between(0, 0, 5), BAD);
    }

    private static void betweenGivesBondsBack() {
        CoinChild x = exitOfDoubleSpend();
        EXPECT.same("10: a challenge", x.before(2, 0, 1), 0);
        EXPECT.same("10: between", x.between(3, 0, 3), 0);
        EXPECT.same("10: the exit's bond", x.user(3, 0), 110);
        EXPECT.same("10: the challenge's bond", x.user(2, 0), 100);
        EXPECT.same("10: locked", x.locked(), 20);
    }

    private static CoinChild exitOfFourth(int period) {
        CoinChild x = Chains.handedOn(period);
        x.exit(3, 0, 4);
        return x;
    }

    private static void beforeOfNoUserCoinOrBlock() {
        badNumbers("11", exitOfFourth(8), 4, CoinChild::before);
        badNumbers("11, none open", Chains.handedOn(8), 4, CoinChild::before);
    }

    private static void beforeWithoutAnExit() {
        CoinChild x = Chains.handedOn(8);
        EXPECT.same("11: none yet", x.before(0, 0, 1), NOT_SO);
        x.exit(2, 0, 3);
        x.after(0, 0, 4);
        EXPECT.same("11: cancelled", x.before(0, 0, 1), NOT_SO);
    }

    private static void beforeWithEachBlock() {
        for (int b = 1; b <= 4; b++) {
            EXPECT.same("11: block " + b, exitOfFourth(8).before(0, 0, b), b < 3 ? 0 : UNPROVEN);
        }
    }

    private static void beforeOfADeposit() {
        CoinChild x = Chains.handedOn(8);
        x.exit(0, 0, 1);
        for (int b = 1; b <= 4; b++) {
            EXPECT.same("11: A is 0", x.before(2, 0, b), UNPROVEN);
        }
    }

    private static void beforeAtTheLastMoment() {
        for (int period : new int[] {4, 5, 6, 7, 62, 63, 64}) {
            CoinChild x = Chains.handedOn(period);
            x.tick(99);
            x.exit(3, 0, 4);
            x.tick(period / 2);
            EXPECT.same("11: in time, period " + period, x.before(0, 0, 2), 0);
            x.tick(1);
            EXPECT.same("11: too late, period " + period, x.before(0, 0, 1), NOT_SO);
        }
    }

    private static void beforeTwiceByABlock() {
        CoinChild x = exitOfFourth(8);
        EXPECT.same("11: first", x.before(0, 0, 1), 0);
        EXPECT.same("11: by the same user", x.before(0, 0, 1), NOT_SO);
        EXPECT.same("11: by another", x.before(1, 0, 1), NOT_SO);
        EXPECT.same("11: one bond", x.user(0, 0), 78);
        x.answer(0, 1, 2);
        EXPECT.same("11: also when answered", x.before(1, 0, 1), NOT_SO);
        EXPECT.same("11: by another block", x.before(0, 0, 2), 0);
    }

    private static void beforeWithJustTwo() {
        CoinChild x = handedOnWith(1, 2);
        x.exit(3, 0, 4);
        EXPECT.same("11: just two", x.before(1, 0, 1), 0);
        EXPECT.same("11: nothing left", x.user(1, 0), 0);
    }

    private static void beforeWithOne() {
        CoinChild x = handedOnWith(1, 1);
        x.exit(3, 0, 4);
        EXPECT.same("11: one", x.before(1, 0, 1), POOR);
        EXPECT.same("11: one still", x.user(1, 0), 1);
        EXPECT.same("11: none is open", x.coin(0, 6), 0);
        EXPECT.same("11: there was none", x.before(0, 0, 1), 0);
    }

    private static void beforeNamesItsFirstRefusal() {
        CoinChild x = handedOnWith(1, 1);
        EXPECT.same("11: bad ahead of not so", x.before(1, 0, 7), BAD);
        EXPECT.same("11: none open ahead of unproven", x.before(0, 0, 4), NOT_SO);
        EXPECT.same("11: none open ahead of poor", x.before(1, 0, 1), NOT_SO);
        x.exit(3, 0, 4);
        x.before(0, 0, 1);
        EXPECT.same("11: bad ahead of poor", x.before(1, 0, 0), BAD);
        EXPECT.same("11: there was one ahead of poor", x.before(1, 0, 1), NOT_SO);
        EXPECT.same("11: unproven ahead of poor", x.before(1, 0, 3), UNPROVEN);
        EXPECT.same("11: bad ahead of there was one", x.before(4, 0, 1), BAD);
        x.tick(5);
        EXPECT.same("11: too late ahead of unproven", x.before(0, 0, 3), NOT_SO);
        EXPECT.same("11: too late ahead of poor", x.before(1, 0, 2), NOT_SO);
        EXPECT.same("11: bad ahead of too late", x.before(0, 3, 1), BAD);
    }

    /** A coin that stands in every block; its exit is for block 24. */
    private static CoinChild longest() {
        CoinChild x = new CoinChild(17, 8);
        x.deposit(0, 20);
        for (int b = 2; b <= 24; b++) {
            Chains.transfer(x, b - 1, (b - 2) % 4, (b - 1) % 4);
        }
        EXPECT.same("8: exit for block 24", x.exit(3, 0, 24), 0);
        return x;
    }

    private static void beforeOfMostBlocks() {
        CoinChild x = longest();
        for (int b = 22; b >= 1; b--) {
            EXPECT.same("11: by " + b, x.before(b % 3, 0, b), 0);
            EXPECT.same("11: open", x.coin(0, 6), 23 - b);
        }
        EXPECT.same("11: all bonds", x.locked(), 20 + 10 + 44);
        for (int b = 1; b <= 22; b++) {
            EXPECT.same("12: of " + b, x.answer(0, b, b + 1), 0);
        }
        EXPECT.same("12: none is open", x.coin(0, 6), 0);
        EXPECT.same("12: all bonds", x.user(3, 0), 90 + 44);
    }

    private static CoinChild challenged() {
        CoinChild x = exitOfFourth(8);
        x.before(0, 0, 1);
        return x;
    }

    private static void answerOfNoCoinOrBlock() {
        CoinChild x = challenged();
        for (int c : Chains.outside(0, 7)) {
            EXPECT.same("12: coin " + c, x.answer(c, 1, 2), BAD);
        }
        for (int c = 1; c <= 7; c++) {
            EXPECT.same("12: no coin " + c + " yet", x.answer(c, 1, 2), BAD);
        }
        for (int b : Chains.outside(1, 24)) {
            EXPECT.same("12: b " + b, x.answer(0, b, 2), BAD);
            EXPECT.same("12: d " + b, x.answer(0, 1, b), BAD);
        }
        for (int b = 5; b <= 24; b++) {
            EXPECT.same("12: no b " + b + " yet", x.answer(0, b, 2), BAD);
            EXPECT.same("12: no d " + b + " yet", x.answer(0, 1, b), BAD);
        }
    }

    private static void answerOfNoChallenge() {
        CoinChild x = Chains.handedOn(8);
        EXPECT.same("12: no exit", x.answer(0, 1, 2), NOT_SO);
        x.exit(3, 0, 4);
        EXPECT.same("12: no challenge", x.answer(0, 1, 2), NOT_SO);
        x.before(0, 0, 1);
        EXPECT.same("12: by another block", x.answer(0, 2, 3), NOT_SO);
        EXPECT.same("12: open", x.answer(0, 1, 2), 0);
        EXPECT.same("12: answered", x.answer(0, 1, 2), NOT_SO);
        CoinChild y = challenged();
        y.tick(8);
        y.finalise(0);
        EXPECT.same("12: cancelled", y.answer(0, 1, 2), NOT_SO);
    }

    private static void answerWithEachBlock() {
        for (int d = 1; d <= 4; d++) {
            EXPECT.same("12: with " + d, challenged().answer(0, 1, d), d == 2 ? 0 : UNPROVEN);
        }
        CoinChild x = exitOfFourth(8);
        x.before(0, 0, 2);
        EXPECT.same("12: with A itself", x.answer(0, 2, 3), 0);
        CoinChild y = Chains.handedOn(8);
        Chains.transfer(y, 1, 0, 0);
        y.exit(3, 0, 4);
        y.before(0, 0, 1);
        EXPECT.same("12: spends it, later than A", y.answer(0, 1, 5), UNPROVEN);
        CoinChild z = Chains.handedOn(8);
        z.forge(0, 1, 2, 2, 2);
        z.build(false, true);
        Chains.transfer(z, 5, 2, 3);
        Chains.transfer(z, 1, 0, 1);
        z.exit(3, 0, 6);
        z.before(0, 0, 1);
        EXPECT.same("12: A without spending", z.answer(0, 1, 5), UNPROVEN);
        EXPECT.same("12: B does not", z.answer(0, 1, 6), UNPROVEN);
        EXPECT.same("12: later than B", z.answer(0, 1, 7), UNPROVEN);
        EXPECT.same("12: ahead of A", z.answer(0, 1, 2), 0);
    }

    private static void answerAfterTheTime() {
        CoinChild x = challenged();
        x.tick(100);
        EXPECT.same("12: at any time", x.answer(0, 1, 2), 0);
        EXPECT.same("13: then it is gone", x.finalise(0), 1);
    }

    private static void answerNamesItsFirstRefusal() {
        CoinChild x = Chains.handedOn(8);
        EXPECT.same("12: bad ahead of not so", x.answer(0, 1, 5), BAD);
        EXPECT.same("12: bad ahead of not so", x.answer(0, 5, 1), BAD);
        EXPECT.same("12: not so ahead of unproven", x.answer(0, 1, 4), NOT_SO);
        x.exit(3, 0, 4);
        EXPECT.same("12: not so ahead of unproven", x.answer(0, 1, 4), NOT_SO);
        x.before(0, 0, 1);
        EXPECT.same("12: bad ahead of unproven", x.answer(1, 1, 4), BAD);
        EXPECT.same("12: unproven", x.answer(0, 1, 4), UNPROVEN);
    }

    private static void answerRefusedChangesNothing() {
        CoinChild x = challenged();
        x.answer(0, 1, 4);
        x.answer(0, 2, 3);
        x.answer(0, 1, 5);
        EXPECT.same("12: open", x.coin(0, 6), 1);
        EXPECT.same("12: no bond", x.user(3, 0), 90);
        EXPECT.same("12: locked", x.locked(), 32);
        EXPECT.same("12: none by 2 yet", x.before(0, 0, 2), 0);
    }

    private static void finaliseOfNoCoin() {
        CoinChild x = exitOfFourth(8);
        x.tick(8);
        for (int c : Chains.outside(0, 7)) {
            EXPECT.same("13: coin " + c, x.finalise(c), BAD);
        }
        for (int c = 1; c <= 7; c++) {
            EXPECT.same("13: no coin " + c + " yet", x.finalise(c), BAD);
        }
    }

    private static void finaliseWithoutAnExit() {
        CoinChild x = Chains.handedOn(4);
        x.tick(100);
        EXPECT.same("13: none yet", x.finalise(0), NOT_SO);
        x.exit(2, 0, 3);
        x.after(0, 0, 4);
        x.tick(100);
        EXPECT.same("13: cancelled", x.finalise(0), NOT_SO);
        x.exit(3, 0, 4);
        x.tick(4);
        EXPECT.same("13: open", x.finalise(0), 1);
        EXPECT.same("13: gone", x.finalise(0), NOT_SO);
        EXPECT.same("13: paid once", x.user(3, 0), 120);
    }

    private static void finaliseAtEachTime() {
        CoinChild x = Chains.handedOn(8);
        x.tick(5);
        x.exit(3, 0, 4);
        for (int since = 0; since < 8; since++) {
            EXPECT.same("13: since " + since, x.finalise(0), NOT_SO);
            x.tick(1);
        }
        EXPECT.same("13: since 8", x.finalise(0), 1);
    }

    private static void finaliseLongAfter() {
        CoinChild x = exitOfFourth(64);
        for (int i = 0; i < 300; i++) {
            x.tick(100);
        }
        EXPECT.same("13: long after", x.finalise(0), 1);
    }

    private static void finaliseWithTheLeastOfMany() {
        CoinChild x = longest();
        for (int b = 22; b >= 2; b--) {
            x.before(0, 0, b);
        }
        x.before(1, 0, 1);
        x.tick(8);
        EXPECT.same("13: cancelled", x.finalise(0), 0);
        EXPECT.same("13: the least block's", x.user(1, 0), 110);
        EXPECT.same("13: all others back", x.user(0, 0), 80);
        EXPECT.same("13: locked", x.locked(), 20);
        EXPECT.same("13: not gone", x.coin(0, 0), 1);
        EXPECT.same("13: none is open", x.finalise(0), NOT_SO);
    }

    private static void finaliseWithEveryChallengeAnswered() {
        CoinChild x = challenged();
        x.before(1, 0, 2);
        x.answer(0, 1, 2);
        x.answer(0, 2, 3);
        x.tick(8);
        EXPECT.same("13: gone", x.finalise(0), 1);
        EXPECT.same("13: value, bond and two more", x.user(3, 0), 124);
        EXPECT.same("13: locked", x.locked(), 0);
    }

    private static void finaliseRefusedChangesNothing() {
        CoinChild x = challenged();
        x.tick(7);
        EXPECT.same("13: not time", x.finalise(0), NOT_SO);
        EXPECT.same("13: open", x.coin(0, 2), 4);
        EXPECT.same("13: the challenge is open", x.coin(0, 6), 1);
        EXPECT.same("13: held", x.coin(0, 0), 1);
        EXPECT.same("13: money", x.user(3, 0), 90);
    }
}
