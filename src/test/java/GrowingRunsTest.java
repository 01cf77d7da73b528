/**
 * "VARIABLES x0 .. x5 are whole numbers of any size": runs from what the runs before have left make
 * numbers longer each time, and every answer stays exact, whatever their length.
 */
public final class GrowingRunsTest {
    private static final Check CHECK = new Check("GrowingRuns");
    private static final int CALL_LIMIT = 512;
    private static final int BOUND = Desks.BOUND;
    private static final int TELLING = Desks.TELLING;
    private static final int ANY = Desks.ANY;

    private GrowingRunsTest() {
    }

    public static void main(String[] args) {
        int turns = args.length > 0 ? Integer.parseInt(args[0]) : 16;
        int seeds = args.length > 1 ? Integer.parseInt(args[1]) : 12;
        againstTables(GrowingProgram.told(), turns);
        for (GrowingProgram program : GrowingProgram.found()) {
            againstTables(program, turns / 2);
        }
        for (int seed = 1; seed <= seeds && CHECK.isClean(); seed++) {
            mixedCalls(seed);
        }
        asOftenAsCallsAllow();
        for (int runs : new int[] {0, 1, 8, 60, 200}) {
            OctagonDesk x = fromNoneToHuge(runs);
            oneMoreAndOneLess(x, runs == 0 ? -1000000 : Long.MIN_VALUE);
            smallBetweenHuge(x);
            halfRoundedDown(x);
        }
        CHECK.finish();
    }

    private static void againstTables(GrowingProgram program, int turns) {
        CHECK.sentence("VARIABLES x0 .. x5 are whole numbers of any size");
        BothDesks desks = new BothDesks(CHECK, program.name, BothDesks.tables());
        program.tell(desks);
        for (int turn = 1; turn <= turns && CHECK.isClean(); turn++) {
            desks.call("copy", 1, 0);
            desks.call("run", 0);
            desks.call("take", 0, program.point);
            desks.call("bounds", 0);
            desks.call("inside", 0, 1);
            desks.call("inside", 1, 0);
            desks.call("copy", 2, 0);
            desks.call("act", 2, TELLING, 1, 2, turn % 2 == 0 ? 1 : -1);
            desks.call("inside", 2, 0);
            desks.call("meet", 3, 0, 2);
            desks.call("inside", 3, 2);
            desks.call("first", 3, 1);
            desks.call("take", 4, turn % 8);
            desks.call("bounds", 4);
        }
    }

    /** Giants in all slots, then calls of every sort on them. */
    private static void mixedCalls(int seed) {
        CHECK.sentence("VARIABLES x0 .. x5 are whole numbers of any size");
        Dice dice = new Dice(seed);
        BothDesks desks = new BothDesks(CHECK, "mixed " + seed, BothDesks.tables());
        GrowingProgram program = GrowingProgram.told();
        program.tell(desks);
        desks.call("run", 0);
        desks.call("take", 0, program.point);
        for (int i = 0; i < 6; i++) {
            desks.call("act", 0, TELLING, i, 2 + dice.below(2), dice.from(-3, 3));
            desks.call("copy", dice.from(1, 5), 0);
        }
        for (int i = 0; i < 5; i++) {
            desks.call("act", 1 + i, TELLING, dice.below(6), dice.below(12), dice.from(-3, 3));
            desks.call(dice.oneIn(2) ? "join" : "widen", dice.below(6), dice.below(6), dice.below(6));
        }
        new MixedCalls(dice, desks, new int[] {0, 1, 2, 3, 4, 5}, 3, true).goOn(dice.oneIn(2));
    }

    /** Each run differs from the one before in the size of its numbers alone. */
    private static void asOftenAsCallsAllow() {
        CHECK.sentence("A RUN from a slot's SHAPE: how many ROUNDS, the last one with them");
        OctagonDesk x = new OctagonDesk();
        GrowingProgram program = GrowingProgram.told();
        program.tell(x);
        int calls = program.acts.length + program.steps.length;
        for (; calls < CALL_LIMIT - 3; calls += 2) {
            CHECK.due("run, call " + (calls + 1), x.run(0), GrowingProgram.ROUNDS);
            CHECK.due("take, call " + (calls + 2), x.take(0, program.point), true);
        }
        CHECK.due("x1 alone is bounded, on both sides, call " + (calls + 1), x.bounds(0), 2);
    }

    /** Slot 0 has x1 from 0 to h, whose length grows with the runs, and nothing else is bounded. */
    private static OctagonDesk fromNoneToHuge(int runs) {
        OctagonDesk x = new OctagonDesk();
        GrowingProgram program = GrowingProgram.told();
        program.tell(x);
        for (int i = 0; i < runs; i++) {
            x.run(0);
            x.take(0, program.point);
        }
        return x;
    }

    private static void oneMoreAndOneLess(OctagonDesk x, long nearestToMinusH) {
        CHECK.sentence("VARIABLES x0 .. x5 are whole numbers of any size");
        x.copy(1, 0);
        x.act(1, TELLING, 1, 2, 1);
        CHECK.due("1 .. h + 1 in 0 .. h", x.inside(1, 0), false);
        CHECK.due("0 .. h in 1 .. h + 1", x.inside(0, 1), false);
        CHECK.due("both", x.meet(2, 0, 1), true);
        CHECK.due("1 .. h in 0 .. h", x.inside(2, 0), true);
        CHECK.due("1 .. h in 1 .. h + 1", x.inside(2, 1), true);
        CHECK.due("1 .. h + 1 in 1 .. h", x.inside(1, 2), false);
        CHECK.due("the first place of 1 .. h", x.first(2, 1), 1);
        x.join(3, 0, 1);
        CHECK.due("1 .. h + 1 in 0 .. h + 1", x.inside(1, 3), true);
        CHECK.due("0 .. h + 1 in 0 .. h", x.inside(3, 0), false);
        x.widen(4, 0, 3);
        CHECK.due("0 and more: bounds", x.bounds(4), 1);
        CHECK.due("0 .. h + 1 in 0 and more", x.inside(3, 4), true);
        x.act(1, TELLING, 1, 3, 1);
        CHECK.due("-h .. 0: the most", x.most(1, 2, 2), 0);
        CHECK.due("-h .. 0: the first place", x.first(1, 1), nearestToMinusH);
        x.act(1, TELLING, 1, 3, 0);
        CHECK.due("turned round twice, in 0 .. h", x.inside(1, 0), true);
        CHECK.due("0 .. h in what was turned round twice", x.inside(0, 1), true);
    }

    /** 0 .. h met with -h + 1 .. 1 has the two places that are small. */
    private static void smallBetweenHuge(OctagonDesk x) {
        CHECK.sentence("Slot to gets the PLACES that both have");
        x.copy(1, 0);
        x.act(1, TELLING, 1, 3, 1);
        CHECK.due("-h + 1 .. 1 met with 0 .. h", x.meet(1, 1, 0), true);
        CHECK.due("its most", x.most(1, 2, 2), 1);
        CHECK.due("its first place", x.first(1, 1), 0);
        for (int i = 0; i < 6; i++) {
            if (i != 1) {
                x.act(1, ANY, i, 0, 0);
            }
        }
        CHECK.due("its places", x.places(1), 2);
        x.copy(2, 0);
        x.act(2, TELLING, 1, 3, -1);
        CHECK.due("-h - 1 .. -1 met with 0 .. 1", x.meet(2, 2, 1), false);
    }

    /** x2 is x1 + 1, so x1 + x2 is at most 2 h + 1; that alone, with x1 <= x2, says that x1 is at most h. */
    private static void halfRoundedDown(OctagonDesk x) {
        CHECK.sentence("always as tight as the whole numbers in them let them be");
        x.copy(1, 0);
        x.act(1, TELLING, 2, 2, 1);
        x.copy(2, 1);
        x.act(2, TELLING, 1, 2, 1);
        x.act(2, TELLING, 2, 4, -1);
        x.widen(1, 1, 2);
        CHECK.due("x1 has no greatest", x.most(1, 2, 2), OctagonDesk.INFINITE);
        CHECK.due("bounds: -x1, x2, x1 + x2, -x1 - x2, x2 - x1", x.bounds(1), 5);
        CHECK.due("with x1 <= x2", x.act(1, BOUND, 2, 5, 0), true);
        x.forget(1, 2);
        CHECK.due("x1 is from 0 to h", Desks.same(x, 1, 0), true);
    }
}
