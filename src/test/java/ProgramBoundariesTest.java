/** The sentences on programs, in 'Terms' and in promises 15 to 18, that name a boundary case. */
public final class ProgramBoundariesTest {
    private static final Check CHECK = new Check("ProgramBoundaries");
    private static final long INFINITE = OctagonDesk.INFINITE;
    private static final int NONE = OctagonDesk.NONE;
    private static final int BOUND = Desks.BOUND;
    private static final int TELLING = Desks.TELLING;
    private static final int ANY = Desks.ANY;

    public static void main(String[] args) {
        twentySteps();
        twentiethAndTwentyFirstStep();
        stepNumbers();
        pointsFromAndTo();
        waysBeyondPoints();
        kindsOfSteps();
        inTheOrderInWhichTheyAreTold();
        pointZeroHasIt();
        placesThatTheEndHasNot();
        fromTheFourthRoundOn();
        notAboveThatFromWhichTheyCome();
        wideningOfWhatItWas();
        emptyEndInTheFourthRound();
        firstRoundInWhichNothingChanges();
        thirtyRounds();
        failedRunLeavesWhatWasRunBefore();
        failedRunWithoutOneBefore();
        runLeavesSlotsAndSteps();
        runReplacesTheOneBefore();
        runFromSlots();
        eraseCounts();
        takeWithoutARun();
        takeFirstAndLast();
        CHECK.finish();
    }

    private static int way(int from, int to) {
        return Desks.way(from, to);
    }

    private static void twentySteps() {
        CHECK.sentence("A PROGRAM has STEPS, 20 at most");
        for (int count = 19; count <= 20; count++) {
            OctagonDesk x = new OctagonDesk();
            for (int i = 0; i < count; i++) {
                x.step(way(0, 1), ANY, 0, i, i);
            }
            CHECK.due(count + " steps are run", x.run(0), 2);
            x.take(1, 1);
            CHECK.due("the first of " + count, x.first(1, 0), 0);
            CHECK.due("the last of " + count, x.most(1, 0, 0), count - 1);
            CHECK.due("erase", x.erase(), count);
        }
    }

    private static void twentiethAndTwentyFirstStep() {
        CHECK.sentence("IllegalState: there are 20");
        OctagonDesk x = new OctagonDesk();
        for (int i = 0; i < 19; i++) {
            x.step(way(0, 1), ANY, 0, i, i);
        }
        CHECK.due("the 20th", x.step(way(0, 1), ANY, 0, 19, 19), 19);
        CHECK.badState("the 21st", () -> x.step(way(0, 1), ANY, 0, 20, 20));
        CHECK.badState("another one", () -> x.step(way(0, 2), TELLING, 0, 0, 1));
        CHECK.badArgument("a wrong one", () -> x.step(way(0, 2), TELLING, 6, 0, 1));
        x.run(0);
        x.take(1, 1);
        CHECK.due("the 20th is run, the 21st is not", x.most(1, 0, 0), 19);
        CHECK.due("nor the other", x.take(1, 2), false);
        CHECK.due("erase", x.erase(), 20);
        CHECK.due("there is room again", x.step(way(0, 2), TELLING, 0, 0, 1), 0);
    }

    private static void stepNumbers() {
        CHECK.sentence("A STEP more .. : its number");
        OctagonDesk x = new OctagonDesk();
        for (int i = 0; i < 20; i++) {
            CHECK.due("number", x.step(i % 64, i % 3 == 0 ? BOUND : TELLING, 0, 0, i), i);
            if (i < 19) {
                CHECK.badArgument("a refused one has none", () -> x.step(64, BOUND, 0, 0, 0));
            }
        }
        x.erase();
        CHECK.due("from 0 on again", x.step(0, BOUND, 0, 0, 0), 0);
        CHECK.due("then 1", x.step(0, BOUND, 0, 0, 0), 1);
    }

    /** x1 is 0 at point 0 and at "from", and 77 behind the step. */
    private static void pointsFromAndTo() {
        CHECK.sentence("from one POINT to another, way being 8 from + to");
        for (int from = 0; from < 8; from++) {
            for (int to = 0; to < 8; to++) {
                OctagonDesk x = new OctagonDesk();
                x.act(0, ANY, 1, 0, 0);
                x.step(way(0, from), TELLING, 0, 0, 0);
                x.step(8 * from + to, ANY, 1, 77, 77);
                x.run(0);
                String step = "from " + from + " to " + to;
                CHECK.due(step, x.take(1, to), true);
                CHECK.due(step + ", x1", x.most(1, 2, 2), 77);
                CHECK.due(step + ", first x1", x.first(1, 1), to == 0 || to == from ? 0 : 77);
                for (int point = 1; point < 8; point++) {
                    boolean reached = point == from || point == to;
                    CHECK.due(step + ", point " + point, x.take(2, point), reached);
                }
            }
        }
    }

    private static void waysBeyondPoints() {
        CHECK.sentence("each from a POINT 0 .. 7 to a POINT");
        OctagonDesk x = new OctagonDesk();
        for (int bad : new int[] {-1, -8, -9, 64, 65, 72, Integer.MIN_VALUE, Integer.MAX_VALUE}) {
            CHECK.badArgument("way " + bad, () -> x.step(bad, TELLING, 0, 0, 0));
        }
        CHECK.due("way 0", x.step(0, TELLING, 0, 0, 0), 0);
        CHECK.due("way 7", x.step(7, TELLING, 0, 0, 0), 1);
        CHECK.due("way 56", x.step(56, TELLING, 0, 0, 0), 2);
        CHECK.due("way 63", x.step(63, TELLING, 0, 0, 0), 3);
        CHECK.due("erase", x.erase(), 4);
    }

    private static void kindsOfSteps() {
        CHECK.sentence("with an ACTION (0, 1 or 2)");
        OctagonDesk x = new OctagonDesk();
        CHECK.badArgument("kind -1", () -> x.step(1, -1, 0, 0, 0));
        CHECK.badArgument("kind 3", () -> x.step(1, 3, 0, 0, 0));
        CHECK.due("kind 0", x.step(way(0, 1), 0, 10, 10, 5), 0);
        CHECK.due("kind 1", x.step(way(0, 2), 1, 5, 11, 5), 1);
        CHECK.due("kind 2", x.step(way(0, 3), 2, 5, 5, 6), 2);
        x.act(0, ANY, 5, 1, 9);
        CHECK.due("run", x.run(0), 2);
        x.take(1, 1);
        CHECK.due("bounded", x.most(1, 10, 10), 5);
        x.take(1, 2);
        CHECK.due("told", x.most(1, 10, 10), 4);
        x.take(1, 3);
        CHECK.due("any", x.most(1, 10, 10), 6);
        CHECK.badArgument("terms that are each other's negation", () -> x.step(1, BOUND, 10, 11, 5));
        CHECK.due("variable 5, its own negation", x.step(1, TELLING, 5, 11, 0), 3);
        CHECK.badArgument("variable 6", () -> x.step(1, TELLING, 6, 11, 0));
        CHECK.badArgument("variable 6", () -> x.step(1, ANY, 6, 0, 0));
        CHECK.badArgument("variable -1", () -> x.step(1, TELLING, -1, 11, 0));
        CHECK.badArgument("variable -1", () -> x.step(1, ANY, -1, 0, 0));
        CHECK.badArgument("term 12", () -> x.step(1, TELLING, 5, 12, 0));
        CHECK.badArgument("term 12", () -> x.step(1, BOUND, 12, 0, 0));
        CHECK.badArgument("term -1", () -> x.step(1, BOUND, 0, -1, 0));
        CHECK.due("erase", x.erase(), 4);
    }

    private static void inTheOrderInWhichTheyAreTold() {
        CHECK.sentence("in the order in which they are told; In each ROUND, step by step");
        OctagonDesk x = new OctagonDesk();
        for (int point = 0; point < 7; point++) {
            x.step(way(point, point + 1), TELLING, 0, 0, 1);
        }
        CHECK.due("all seven in the first round", x.run(0), 2);
        x.erase();
        for (int point = 6; point >= 0; point--) {
            x.step(way(point, point + 1), TELLING, 0, 0, 1);
        }
        CHECK.due("one of the seven in each round", x.run(0), 8);
        CHECK.due("reached", x.take(1, 7), true);
    }

    private static void pointZeroHasIt() {
        CHECK.sentence("A RUN from a SHAPE: POINT 0 has it, the others are EMPTY");
        OctagonDesk x = new OctagonDesk();
        x.act(3, ANY, 0, 4, 6);
        CHECK.due("without steps", x.run(3), 1);
        CHECK.due("point 0", x.take(1, 0), true);
        CHECK.due("has it", Desks.same(x, 1, 3), true);
        for (int point = 1; point < 8; point++) {
            CHECK.due("point " + point, x.take(1, point), false);
        }
        for (int how = 0; how < Desks.WAYS_TO_EMPTY; how++) {
            Desks.makeEmpty(x, 3, how);
            x.erase();
            CHECK.due("of an EMPTY SHAPE", x.run(3), 1);
            CHECK.due("point 0", x.take(1, 0), false);
            x.step(way(0, 1), ANY, 0, 0, 0);
            CHECK.due("of an EMPTY SHAPE, with a step", x.run(3), 1);
            CHECK.due("point 1", x.take(1, 1), false);
        }
        CHECK.due("of all places, with a step", x.run(4), 2);
        CHECK.due("point 1", x.take(1, 1), true);
    }

    private static int roundsOfOneStep(int kind, int a, int b, int c) {
        OctagonDesk x = new OctagonDesk();
        x.act(0, ANY, 0, 0, 3);
        x.act(0, ANY, 1, 0, 0);
        x.step(way(0, 0), kind, a, b, c);
        return x.run(0);
    }

    /** A step from point 0 to itself; x0 is from 0 to 3 there, x1 is 0. */
    private static void placesThatTheEndHasNot() {
        CHECK.sentence("if that has a PLACE that the SHAPE at its end has not");
        CHECK.due("the same places", roundsOfOneStep(TELLING, 0, 0, 0), 1);
        CHECK.due("the same places another way", roundsOfOneStep(TELLING, 0, 1, 3), 1);
        CHECK.due("fewer places", roundsOfOneStep(BOUND, 0, 0, 2), 1);
        CHECK.due("no places", roundsOfOneStep(BOUND, 0, 0, -1), 1);
        CHECK.due("any of the places", roundsOfOneStep(ANY, 0, 0, 3), 1);
        CHECK.due("one more behind", roundsOfOneStep(ANY, 0, 0, 4), 2);
        CHECK.due("one more before", roundsOfOneStep(ANY, 0, -1, 3), 2);
        CHECK.due("one more, fewer otherwise", roundsOfOneStep(ANY, 0, 4, 4), 2);
        CHECK.due("x0 becomes x1", roundsOfOneStep(TELLING, 0, 2, 3), 1);
        CHECK.due("x0 becomes x1 + 4", roundsOfOneStep(TELLING, 0, 2, 4), 2);
    }

    /**
     * Point "to" has x0 = 0 from the first round on, by a step from point 0; in the round told a step
     * to it from "from" makes x0 = 5 of what came there by a chain of points the round before.
     */
    private static OctagonDesk arriving(int round, int from, int to) {
        OctagonDesk x = new OctagonDesk();
        x.act(0, ANY, 0, 0, 0);
        x.step(way(from, to), ANY, 0, 5, 5);
        int behind = from;
        for (int point = round - 2; point >= 0; point--) {
            x.step(way(point, behind), TELLING, 0, 0, 0);
            behind = point;
        }
        if (from != to) {
            x.step(way(0, to), TELLING, 0, 0, 0);
        }
        return x;
    }

    private static void lookAtArrival(int round, int from, int to, long due) {
        OctagonDesk x = arriving(round, from, to);
        String step = "from " + from + " to " + to + " in round " + round;
        CHECK.due(step + ", rounds", x.run(0), round + 1);
        x.take(1, to);
        CHECK.due(step + ", greatest x0", x.most(1, 0, 0), due);
        CHECK.due(step + ", least x0", x.most(1, 1, 1), 0);
    }

    private static void fromTheFourthRoundOn() {
        CHECK.sentence("from the fourth ROUND on");
        lookAtArrival(2, 7, 6, 5);
        lookAtArrival(3, 7, 6, 5);
        lookAtArrival(4, 7, 6, INFINITE);
        lookAtArrival(5, 7, 6, INFINITE);
        lookAtArrival(6, 7, 6, INFINITE);
        lookAtArrival(3, 6, 6, 5);
        lookAtArrival(4, 6, 6, INFINITE);
        OctagonDesk x = new OctagonDesk();
        x.act(0, ANY, 0, 0, 0);
        x.step(way(0, 1), BOUND, 0, 0, 2);
        x.step(way(1, 0), TELLING, 0, 0, 1);
        CHECK.due("counting to 3 in three rounds", x.run(0), 4);
        x.take(1, 0);
        CHECK.due("joined", x.most(1, 0, 0), 3);
        x.erase();
        x.step(way(0, 1), BOUND, 0, 0, 3);
        x.step(way(1, 0), TELLING, 0, 0, 1);
        CHECK.due("counting to 4 in four rounds", x.run(0), 5);
        x.take(1, 0);
        CHECK.due("widened", x.most(1, 0, 0), INFINITE);
    }

    private static void notAboveThatFromWhichTheyCome() {
        CHECK.sentence("for STEPS to a POINT not above that from which they come");
        for (int round = 4; round <= 6; round++) {
            lookAtArrival(round, 6, 7, 5);
            lookAtArrival(round, 6, 6, INFINITE);
            lookAtArrival(round, 7, 6, INFINITE);
            lookAtArrival(round, 7, 5, INFINITE);
            lookAtArrival(round, 5, 7, 5);
        }
    }

    /** x0 is 0 and x1 from 0 to 4 at point 5; then x0 = 1 and x1 = 2 come from point 6. */
    private static void wideningOfWhatItWas() {
        CHECK.sentence("THE WIDENING of what it was by THE JOIN");
        OctagonDesk x = new OctagonDesk();
        x.act(0, ANY, 0, 0, 0);
        x.act(0, ANY, 1, 0, 4);
        x.step(way(6, 5), ANY, 1, 2, 2);
        x.step(way(3, 6), TELLING, 0, 0, 1);
        x.step(way(2, 3), TELLING, 0, 0, 0);
        x.step(way(0, 2), TELLING, 0, 0, 0);
        x.step(way(0, 5), TELLING, 0, 0, 0);
        CHECK.due("rounds", x.run(0), 5);
        x.take(1, 5);
        CHECK.due("x0 + x1 did not grow", x.most(1, 0, 2), 4);
        CHECK.due("nor x0 - x1", x.most(1, 0, 3), 0);
        CHECK.due("so x0, which did, has the half of both", x.most(1, 0, 0), 2);
        CHECK.due("-x0 did not grow", x.most(1, 1, 1), 0);
        CHECK.due("nor x1", x.most(1, 2, 2), 4);
        CHECK.due("nor -x1", x.most(1, 3, 3), 0);
        CHECK.due("nor x1 - x0", x.most(1, 2, 1), 4);
    }

    private static void emptyEndInTheFourthRound() {
        CHECK.sentence("b if a is EMPTY (what it was, in a RUN)");
        OctagonDesk x = new OctagonDesk();
        x.act(0, ANY, 0, 0, 0);
        x.act(0, ANY, 1, 1, 3);
        x.step(way(6, 5), ANY, 0, 7, 7);
        x.step(way(3, 6), TELLING, 0, 0, 0);
        x.step(way(2, 3), TELLING, 0, 0, 0);
        x.step(way(0, 2), TELLING, 0, 0, 0);
        CHECK.due("rounds", x.run(0), 5);
        x.take(1, 5);
        CHECK.due("x0", x.most(1, 0, 0), 7);
        CHECK.due("-x0", x.most(1, 1, 1), -7);
        CHECK.due("x1", x.most(1, 2, 2), 3);
    }

    private static void firstRoundInWhichNothingChanges() {
        CHECK.sentence("It is over with the first ROUND in which nothing changes; how many ROUNDS, the last one with them");
        for (int edges = 0; edges <= 7; edges++) {
            OctagonDesk x = new OctagonDesk();
            for (int point = edges - 1; point >= 0; point--) {
                x.step(way(point, point + 1), TELLING, 0, 0, 0);
            }
            CHECK.due(edges + " rounds with a change", x.run(0), edges + 1);
            CHECK.due("once more", x.run(0), edges + 1);
        }
    }

    private static void tellTwentyNineChanges(OctagonDesk x) {
        FoundProgram.thirtyRounds().tell(x);
    }

    private static void fillForTwentyNineChanges(OctagonDesk x, int slot) {
        FoundProgram.thirtyRounds().fill(x, slot);
    }

    /** A copy of point 2 told last changes with it in round 29, told first only in round 30. */
    private static void tellFailing(OctagonDesk x) {
        x.step(way(2, 3), TELLING, 0, 0, 0);
        tellTwentyNineChanges(x);
    }

    private static void thirtyRounds() {
        CHECK.sentence("but after 30 ROUNDS it has FAILED");
        OctagonDesk x = new OctagonDesk();
        fillForTwentyNineChanges(x, 0);
        tellTwentyNineChanges(x);
        CHECK.due("nothing changes in round 30", x.run(0), 30);
        CHECK.due("taken", x.take(1, 2), true);
        x.step(way(2, 3), TELLING, 0, 0, 0);
        CHECK.due("the copy told last", x.run(0), 30);
        x.take(1, 2);
        x.take(2, 3);
        CHECK.due("is a copy", Desks.same(x, 1, 2), true);
        x.erase();
        tellFailing(x);
        CHECK.due("the copy told first changes in round 30", x.run(0), NONE);
    }

    private static void failedRunLeavesWhatWasRunBefore() {
        CHECK.sentence("NONE if it has FAILED (and what was run before stays)");
        OctagonDesk x = new OctagonDesk();
        x.act(5, ANY, 0, 0, 0);
        for (int point = 1; point < 6; point++) {
            x.step(way(0, point), ANY, 0, point, 2 * point);
        }
        CHECK.due("a good run", x.run(5), 2);
        x.erase();
        fillForTwentyNineChanges(x, 0);
        tellFailing(x);
        CHECK.due("a failed one", x.run(0), NONE);
        CHECK.due("another", x.run(0), NONE);
        for (int point = 0; point < 8; point++) {
            CHECK.due("point " + point, x.take(1, point), point < 6);
            if (point < 6) {
                CHECK.due("its least x0", x.first(1, 0), point);
                CHECK.due("its greatest x0", x.most(1, 0, 0), 2 * point);
            }
        }
        CHECK.due("the slot stays", x.most(0, 0, 0), 4);
        CHECK.due("the steps stay", x.erase(), 12);
        tellTwentyNineChanges(x);
        CHECK.due("a good one again", x.run(0), 30);
        CHECK.due("replaces it", x.take(1, 3), false);
        CHECK.due("in all points", x.take(1, 2), true);
    }

    private static void failedRunWithoutOneBefore() {
        CHECK.sentence("NONE if it has FAILED (with nothing run before)");
        OctagonDesk x = new OctagonDesk();
        fillForTwentyNineChanges(x, 0);
        tellFailing(x);
        CHECK.due("failed", x.run(0), NONE);
        for (int point = 0; point < 8; point++) {
            CHECK.due("point " + point, x.take(1, point), false);
        }
    }

    private static void runLeavesSlotsAndSteps() {
        CHECK.sentence("A RUN from a slot's SHAPE (the slots and the steps stay)");
        OctagonDesk x = new OctagonDesk();
        x.act(0, ANY, 0, 0, 0);
        x.act(1, ANY, 0, 3, 3);
        x.step(way(0, 0), TELLING, 0, 0, 1);
        CHECK.due("run", x.run(0), 5);
        CHECK.due("the slot", x.most(0, 0, 0), 0);
        CHECK.due("another slot", x.most(1, 0, 0), 3);
        CHECK.due("run again", x.run(0), 5);
        CHECK.due("erase", x.erase(), 1);
        x.act(0, ANY, 0, 8, 8);
        x.take(2, 0);
        CHECK.due("a slot that changes leaves what was run", x.first(2, 0), 0);
    }

    private static void runReplacesTheOneBefore() {
        CHECK.sentence("as the last RUN that had not FAILED left it");
        OctagonDesk x = new OctagonDesk();
        x.step(way(0, 1), ANY, 0, 1, 1);
        x.step(way(1, 7), ANY, 1, 2, 2);
        x.run(0);
        CHECK.due("point 7", x.take(1, 7), true);
        x.erase();
        CHECK.due("erased, but not run again", x.take(1, 7), true);
        x.step(way(0, 2), ANY, 0, 3, 3);
        CHECK.due("told, but not run", x.take(1, 2), false);
        x.run(0);
        CHECK.due("point 7 after the next run", x.take(1, 7), false);
        CHECK.due("point 1 after it", x.take(1, 1), false);
        CHECK.due("point 2 after it", x.take(1, 2), true);
        x.run(0);
        x.run(0);
        x.take(1, 2);
        CHECK.due("x0 there", x.first(1, 0), 3);
        x.act(1, ANY, 0, 50, 50);
        x.take(2, 2);
        CHECK.due("changing the slot leaves the point", x.first(2, 0), 3);
    }

    private static void runFromSlots() {
        CHECK.sentence("A RUN from a slot's SHAPE (slots 0 to 5)");
        OctagonDesk x = new OctagonDesk();
        x.step(way(0, 1), TELLING, 0, 0, 10);
        for (int slot = 0; slot < 6; slot++) {
            x.act(slot, ANY, 0, slot, slot);
        }
        for (int slot = 5; slot >= 1; slot--) {
            CHECK.due("run(" + slot + ")", x.run(slot), 2);
            x.take(0, 1);
            CHECK.due("x0", x.first(0, 0), slot + 10);
        }
        CHECK.due("run(0)", x.run(0), 2);
        CHECK.badArgument("run(-1)", () -> x.run(-1));
        CHECK.badArgument("run(6)", () -> x.run(6));
        x.take(0, 1);
        CHECK.due("x0 of the last good call", x.first(0, 0), 21);
    }

    private static void eraseCounts() {
        CHECK.sentence("There are no steps: how many there were");
        OctagonDesk x = new OctagonDesk();
        CHECK.due("none", x.erase(), 0);
        x.step(way(0, 1), TELLING, 0, 0, 0);
        CHECK.due("one", x.erase(), 1);
        CHECK.due("none again", x.erase(), 0);
        CHECK.due("a run without steps", x.run(0), 1);
        CHECK.due("reaches nothing", x.take(1, 1), false);
        for (int i = 0; i < 20; i++) {
            x.step(way(0, 1), TELLING, 0, 0, 0);
        }
        CHECK.due("twenty", x.erase(), 20);
        for (int i = 0; i < 20; i++) {
            CHECK.due("twenty more", x.step(way(0, 2), TELLING, 0, 0, 0), i);
        }
        CHECK.badState("and no more", () -> x.step(way(0, 2), TELLING, 0, 0, 0));
        x.run(0);
        CHECK.due("the erased ones are not run", x.take(1, 1), false);
        CHECK.due("the others are", x.take(1, 2), true);
    }

    private static void takeWithoutARun() {
        CHECK.sentence("(EMPTY without one): whether it has a PLACE");
        OctagonDesk x = new OctagonDesk();
        x.step(way(0, 1), ANY, 0, 1, 1);
        for (int point = 0; point < 8; point++) {
            x.clear(3);
            CHECK.due("point " + point, x.take(3, point), false);
            CHECK.due("isEmpty", x.isEmpty(3), true);
        }
        x.run(0);
        CHECK.due("point 0 after a run", x.take(3, 0), true);
        CHECK.due("isEmpty", x.isEmpty(3), false);
        CHECK.due("point 1 after a run", x.take(3, 1), true);
        CHECK.due("point 2 after a run", x.take(3, 2), false);
    }

    private static void takeFirstAndLast() {
        CHECK.sentence("Slot to gets the SHAPE of a POINT (0 .. 7, slots 0 .. 5)");
        OctagonDesk x = new OctagonDesk();
        for (int point = 1; point < 8; point++) {
            x.step(way(0, point), ANY, 0, point, point);
        }
        x.act(0, ANY, 0, 0, 0);
        x.run(0);
        for (int point = 0; point < 8; point++) {
            int slot = point % 6;
            CHECK.due("take(" + slot + ", " + point + ")", x.take(slot, point), true);
            CHECK.due("x0", x.first(slot, 0), point);
        }
        for (int bad : new int[] {-1, 8, Integer.MIN_VALUE, Integer.MAX_VALUE}) {
            CHECK.badArgument("take(5, " + bad + ")", () -> x.take(5, bad));
        }
        for (int bad : new int[] {-1, 6, Integer.MIN_VALUE, Integer.MAX_VALUE}) {
            CHECK.badArgument("take(" + bad + ", 0)", () -> x.take(bad, 0));
        }
        CHECK.due("slot 5 stays", x.first(5, 0), 5);
    }
}
