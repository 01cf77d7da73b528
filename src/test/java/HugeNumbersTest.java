/**
 * Variables are whole numbers of any size: meeting a shape with its own image doubles a difference,
 * so that some hundred calls lead beyond every long. What fits in a long is due exactly even then.
 */
public final class HugeNumbersTest {
    private static final Check CHECK = new Check("HugeNumbers");

    private final Dice dice;
    private final BothDesks desks;

    private HugeNumbersTest(String name, int seed) {
        dice = new Dice(seed);
        desks = new BothDesks(CHECK, name + " " + seed, BothDesks.tables());
    }

    public static void main(String[] args) {
        int seeds = args.length > 0 ? Integer.parseInt(args[0]) : 60;
        for (int doublings = 30; doublings <= 66; doublings++) {
            new HugeNumbersTest("doublings", doublings).exactDifference(doublings);
        }
        for (int doublings = 20; doublings <= 50; doublings++) {
            new HugeNumbersTest("round", doublings).goingRound(doublings);
        }
        new HugeNumbersTest("run again", 1).runAgainAndAgain();
        new HugeNumbersTest("run far", 1).runWithTwoDoublings();
        new HugeNumbersTest("halves", 1).halvesOnTheWay();
        for (int seed = 1; seed <= seeds && CHECK.isClean(); seed++) {
            new HugeNumbersTest("dice", seed).thrownByDice();
            new HugeNumbersTest("chained", seed).chained();
        }
        CHECK.finish();
    }

    /** x1 - x0 in slot 0 becomes twice what it was; slot 1 and x2 are used up. */
    private void doubleDifference() {
        desks.call("copy", 1, 0);
        desks.call("act", 1, 1, 2, 2, 0);
        desks.call("act", 1, 1, 1, 0, 0);
        desks.call("forget", 1, 0);
        desks.call("meet", 0, 0, 1);
        desks.call("act", 0, 1, 1, 4, 0);
        desks.call("forget", 0, 2);
    }

    private void exactDifference(int doublings) {
        desks.call("act", 0, 0, 0, 3, -1000000);
        desks.call("act", 0, 0, 1, 2, 1000000 + doublings % 2);
        for (int i = 0; i < doublings; i++) {
            doubleDifference();
        }
        desks.call("most", 0, 0, 3);
        desks.call("most", 0, 1, 2);
        desks.call("bounds", 0);
        desks.call("copy", 2, 0);
        desks.call("act", 2, 1, 1, 2, 1);
        desks.call("inside", 0, 2);
        desks.call("inside", 2, 0);
        desks.call("inside", 0, 0);
        desks.call("meet", 3, 0, 2);
        desks.call("join", 4, 0, 2);
        desks.call("inside", 0, 4);
        desks.call("widen", 5, 0, 4);
        desks.call("bounds", 5);
        lookAtDistance();
        countPlaces();
    }

    /** Two huge differences from x0 that were built apart leave a small one between them. */
    private void lookAtDistance() {
        desks.call("copy", 2, 0);
        desks.call("act", 2, 1, 3, 2, 7);
        desks.call("forget", 2, 1);
        desks.call("meet", 3, 0, 2);
        desks.call("most", 3, 6, 3);
        desks.call("most", 3, 7, 2);
        desks.call("first", 3, 0);
        desks.call("first", 3, 1);
        desks.call("first", 3, 3);
    }

    private void countPlaces() {
        for (int i = 2; i < 6; i++) {
            desks.call("act", 0, 2, i, 1, 2);
        }
        desks.call("places", 0);
        desks.call("act", 0, 0, 0, 0, 5);
        desks.call("act", 0, 0, 1, 1, -3);
        desks.call("places", 0);
        desks.call("act", 0, 0, 4, 6, 3);
        desks.call("places", 0);
        desks.call("most", 0, 2, 2);
        desks.call("most", 0, 3, 3);
        desks.call("isEmpty", 0);
    }

    /** Each variable is huge more than the one before, and the first more than the last: no place. */
    private void goingRound(int doublings) {
        desks.call("act", 0, 0, 0, 3, -1000000);
        desks.call("act", 0, 0, 1, 2, 1000000);
        for (int i = 0; i < doublings; i++) {
            doubleDifference();
        }
        desks.call("copy", 2, 0);
        for (int i = 2; i < 6; i++) {
            desks.call("copy", 1, 0);
            desks.call("act", 1, 1, i, 2, 0);
            desks.call("act", 1, 1, i - 1, 0, 0);
            forgetAllBut(1, i, i - 1);
            desks.call("meet", 2, 2, 1);
        }
        desks.call("bounds", 2);
        desks.call("most", 2, 10, 9);
        desks.call("copy", 1, 0);
        desks.call("act", 1, 1, 5, 0, 0);
        desks.call("act", 1, 1, 0, 2, 0);
        forgetAllBut(1, 0, 5);
        desks.call("meet", 3, 2, 1);
        desks.call("meet", 4, 1, 2);
        desks.call("isEmpty", 3);
        desks.call("bounds", 4);
    }

    private void forgetAllBut(int slot, int i, int j) {
        for (int k = 0; k < 6; k++) {
            if (k != i && k != j) {
                desks.call("forget", slot, k);
            }
        }
    }

    /** Each run doubles x0 - x1 and x2 - x3 at point 4, which keeps the two pairs apart. */
    private void tellDoubling() {
        desks.call("act", 0, 0, 0, 3, 999999);
        desks.call("act", 0, 0, 4, 7, 1000000);
        desks.call("step", 8 * 0 + 1, 0, 2, 5, 0);
        desks.call("step", 8 * 1 + 2, 1, 1, 6, 0);
        desks.call("step", 8 * 2 + 3, 1, 2, 0, 0);
        desks.call("step", 8 * 3 + 4, 1, 3, 2, 0);
        desks.call("step", 8 * 0 + 4, 1, 0, 0, 0);
    }

    private void halvesOnTheWay() {
        tellDoubling();
        int runs = 0;
        while (desks.callsLeft() > 60) {
            desks.call("run", 0);
            desks.call("take", 0, 4);
            runs++;
            if (runs % 6 == 0) {
                desks.call("act", 0, 1, 0, 0, dice.from(-1000000, 1000000));
                desks.call("act", 0, 1, 2, 4, dice.from(-1000000, 1000000));
            }
            if (runs % 12 == 0 || runs > 100 && runs % 3 == 0) {
                lookAtHalves();
            }
        }
    }

    /** x0 <= (x0 + x1) / 2 by x0 <= x1; x0 + x2 by the two alone is compared with what x0 + x1 was. */
    private void lookAtHalves() {
        desks.call("copy", 1, 0);
        desks.call("act", 1, 1, 1, 3, 0);
        desks.call("copy", 2, 1);
        desks.call("act", 2, 0, 0, 3, 0);
        desks.call("act", 2, 1, 2, 0, 0);
        desks.call("forget", 2, 1);
        desks.call("act", 1, 1, 2, 2, 0);
        desks.call("forget", 1, 1);
        for (int i = 0; i < 3; i++) {
            desks.call("inside", 2, 1);
            desks.call("act", 1, 1, 0, 0, -1);
        }
        desks.call("bounds", 1);
        desks.call("bounds", 2);
    }

    private void runAgainAndAgain() {
        tellDoubling();
        while (desks.callsLeft() > 30) {
            desks.call("run", 0);
            desks.call("take", 0, 4);
        }
        lookAtOneMoreAndOneLess();
    }

    /** Two doublings by each run, from point 0 to 3 and from 3 to 6, without a widening. */
    private void runWithTwoDoublings() {
        desks.call("act", 0, 0, 0, 3, 999999);
        desks.call("act", 0, 0, 4, 7, 1000000);
        for (int point = 0; point <= 3; point += 3) {
            desks.call("step", 9 * point + 1, 0, 2, 5, 0);
            desks.call("step", 9 * point + 10, 1, 1, 6, 0);
            desks.call("step", 9 * point + 19, 1, 2, 0, 0);
            desks.call("step", 9 * point + 3, 1, 0, 0, 0);
        }
        while (desks.callsLeft() > 30) {
            desks.call("run", 0);
            desks.call("take", 0, 6);
        }
        lookAtOneMoreAndOneLess();
        desks.call("copy", 2, 0);
        desks.call("act", 2, 1, 0, 0, 1);
        desks.call("join", 3, 0, 2);
        desks.call("inside", 3, 2);
        desks.call("inside", 3, 0);
        desks.call("widen", 4, 0, 3);
        desks.call("bounds", 4);
        desks.call("meet", 5, 2, 3);
        desks.call("inside", 5, 3);
        desks.call("inside", 5, 0);
    }

    private void lookAtOneMoreAndOneLess() {
        desks.call("bounds", 0);
        desks.call("copy", 1, 0);
        desks.call("act", 1, 1, 0, 0, 1);
        desks.call("inside", 0, 1);
        desks.call("inside", 1, 0);
        desks.call("act", 1, 1, 0, 0, -1);
        desks.call("inside", 0, 1);
        desks.call("inside", 1, 0);
        desks.call("act", 1, 0, 1, 2, -1000000);
        desks.call("isEmpty", 1);
        desks.call("bounds", 1);
        desks.call("most", 1, 0, 3);
        desks.call("first", 1, 3);
    }

    private void thrownByDice() {
        desks.call("act", 0, 0, 0, 3, -dice.below(1000000));
        if (dice.oneIn(2)) {
            desks.call("act", 0, 0, 1, 2, 1000000);
        }
        while (desks.callsLeft() > 0) {
            int sort = dice.below(8);
            if (sort < 3) {
                doubleDifference();
            } else if (sort < 5) {
                int p = dice.below(12);
                int q = dice.below(12);
                desks.call("copy", 3, 0);
                desks.call("act", 3, 0, p, p == (q ^ 1) ? p : q, dice.from(-9, 9));
                desks.call("places", 3);
                desks.call("bounds", 3);
                desks.call("inside", 3, 0);
                desks.call("inside", dice.below(6), dice.below(6));
                desks.call("most", 3, dice.below(6), dice.below(6));
                desks.call("first", 3, dice.below(6));
            } else if (sort == 5) {
                desks.call("act", 0, 1, 1, 2, dice.from(-1000000, 1000000));
            } else {
                desks.call("join", dice.from(4, 5), dice.below(6), dice.below(6));
                desks.call("widen", dice.from(4, 5), dice.below(6), dice.below(6));
                desks.call("meet", dice.from(4, 5), dice.below(6), dice.below(6));
            }
        }
    }

    /** All six variables in one chain, so that each round of meets makes numbers five times as great. */
    private void chained() {
        desks.call("act", 0, 0, 0, 3, dice.from(-1000000, 1000000));
        desks.call("act", 0, 0, 0, 2, dice.from(-1000000, 1000000));
        while (desks.callsLeft() > 40) {
            for (int i = 1; i < 5; i++) {
                desks.call("copy", 1, 0);
                desks.call("act", 1, 1, i + 1, 2, dice.from(-3, 3));
                desks.call("act", 1, 1, i, dice.below(2), 0);
                for (int j = 0; j < 6; j++) {
                    if (j != i && j != i + 1) {
                        desks.call("forget", 1, j);
                    }
                }
                desks.call("meet", i == 1 ? 2 : 3, i == 1 ? 0 : 3, 1);
                desks.call("copy", 3, i == 1 ? 2 : 3);
            }
            desks.call("act", 3, 1, 1, 10, 0);
            desks.call("copy", 0, 3);
            for (int j = 2; j < 6; j++) {
                desks.call("forget", 0, j);
            }
            desks.call("bounds", 0);
            desks.call("most", 0, 0, 3);
        }
        desks.call("step", 1, 1, 2, 2, 5);
        desks.call("step", 8, 1, 1, 2, 3);
        desks.call("step", 9, 0, 2, 5, 100);
        desks.call("run", 0);
        desks.call("take", 4, 0);
        desks.call("take", 5, 1);
        desks.call("bounds", 4);
        desks.call("bounds", 5);
        desks.call("inside", 4, 5);
        desks.call("most", 5, 2, 5);
    }
}
