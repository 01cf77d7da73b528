/** Promises 15 to 18, each with ordinary inputs, the edges that the document names, and wrong inputs. */
public final class ProgramPromisesTest {
    private static final Check CHECK = new Check("ProgramPromises");
    private static final long INFINITE = OctagonDesk.INFINITE;
    private static final int NONE = OctagonDesk.NONE;
    private static final int BOUND = 0;
    private static final int TELLING = 1;
    private static final int ANY = 2;
    private static final int[] NO_SLOTS = {-1, 6, Integer.MIN_VALUE, Integer.MAX_VALUE};
    private static final int[] NO_NUMBERS = {-1000001, 1000001, Integer.MIN_VALUE, Integer.MAX_VALUE};

    public static void main(String[] args) {
        promise15Step();
        promise15Wrong();
        promise16Erase();
        promise17CountingLoop();
        promise17WithoutSteps();
        promise17WideningBackwardsAlone();
        promise17WideningFromTheFourthRound();
        promise17InOrder();
        promise17TheThirtiethRound();
        promise17TheThirtyFirstRound();
        promise17Failed();
        promise17Wrong();
        promise18Take();
        CHECK.finish();
    }

    private static int way(int from, int to) {
        return 8 * from + to;
    }

    private static void promise15Step() {
        OctagonDesk x = new OctagonDesk();
        for (int i = 0; i < 20; i++) {
            CHECK.due("15: number " + i, x.step(way(i % 8, 7 - i % 8), TELLING, 0, 0, i), i);
        }
        CHECK.badState("15: a step too many", () -> x.step(0, BOUND, 0, 0, 0));
        CHECK.badArgument("15: wrong comes first", () -> x.step(64, BOUND, 0, 0, 0));
        CHECK.badArgument("15: wrong comes first", () -> x.step(0, BOUND, 0, 1, 0));
        CHECK.due("15: there are 20", x.erase(), 20);
        CHECK.due("15: from 0 again", x.step(63, ANY, 5, -1000000, 1000000), 0);
    }

    private static void promise15Wrong() {
        OctagonDesk x = new OctagonDesk();
        for (int bad : new int[] {-1, 64, Integer.MIN_VALUE, Integer.MAX_VALUE}) {
            CHECK.badArgument("15: way " + bad, () -> x.step(bad, BOUND, 0, 0, 0));
        }
        for (int bad : new int[] {-1, 3, Integer.MIN_VALUE, Integer.MAX_VALUE}) {
            CHECK.badArgument("15: kind " + bad, () -> x.step(0, bad, 0, 0, 0));
        }
        for (int bad : new int[] {-1, 12, Integer.MIN_VALUE, Integer.MAX_VALUE}) {
            CHECK.badArgument("15: term " + bad, () -> x.step(0, BOUND, bad, 0, 0));
            CHECK.badArgument("15: term " + bad, () -> x.step(0, BOUND, 0, bad, 0));
            CHECK.badArgument("15: told term " + bad, () -> x.step(0, TELLING, 0, bad, 0));
        }
        for (int bad : new int[] {-1, 6, Integer.MIN_VALUE, Integer.MAX_VALUE}) {
            CHECK.badArgument("15: variable " + bad, () -> x.step(0, TELLING, bad, 0, 0));
            CHECK.badArgument("15: variable " + bad, () -> x.step(0, ANY, bad, 0, 0));
        }
        for (int bad : NO_NUMBERS) {
            CHECK.badArgument("15: bound of " + bad, () -> x.step(0, BOUND, 0, 0, bad));
            CHECK.badArgument("15: more by " + bad, () -> x.step(0, TELLING, 0, 0, bad));
            CHECK.badArgument("15: any from " + bad, () -> x.step(0, ANY, 0, bad, 1000000));
            CHECK.badArgument("15: any to " + bad, () -> x.step(0, ANY, 0, -1000000, bad));
        }
        CHECK.badArgument("15: x0 - x0", () -> x.step(0, BOUND, 0, 1, 5));
        CHECK.badArgument("15: from 3 to 2", () -> x.step(0, ANY, 0, 3, 2));
        CHECK.due("15: nothing was told", x.erase(), 0);
    }

    private static void promise16Erase() {
        OctagonDesk x = new OctagonDesk();
        CHECK.due("16: none", x.erase(), 0);
        x.step(way(0, 1), ANY, 0, 3, 4);
        x.step(way(1, 2), ANY, 1, 3, 4);
        x.run(0);
        CHECK.due("16: two", x.erase(), 2);
        CHECK.due("16: none are left", x.erase(), 0);
        CHECK.due("16: what was run stays", x.take(1, 2), true);
        CHECK.due("16: a run without them", x.run(0), 1);
        CHECK.due("16: reaches nothing", x.take(1, 2), false);
    }

    /** x0 = 0; while x0 <= 9: x0 = x0 + 1; then x0 >= 10. */
    private static void tellCountingLoop(OctagonDesk x) {
        x.step(way(0, 1), ANY, 0, 0, 0);
        x.step(way(1, 2), BOUND, 0, 0, 9);
        x.step(way(2, 1), TELLING, 0, 0, 1);
        x.step(way(1, 3), BOUND, 1, 1, -10);
    }

    private static void promise17CountingLoop() {
        OctagonDesk x = new OctagonDesk();
        tellCountingLoop(x);
        CHECK.due("17: counting", x.run(0), 6);
        CHECK.due("17: the slot stays", x.bounds(0), 0);
        x.take(1, 1);
        CHECK.due("17: widened", x.most(1, 0, 0), INFINITE);
        CHECK.due("17: -x0", x.most(1, 1, 1), 0);
        x.take(1, 2);
        CHECK.due("17: in the loop", x.most(1, 0, 0), 9);
        x.take(1, 3);
        CHECK.due("17: behind the loop", x.most(1, 1, 1), -10);
        x.act(2, BOUND, 0, 0, 0);
        x.act(2, BOUND, 1, 1, -1);
        CHECK.due("17: from an empty shape", x.run(2), 1);
        CHECK.due("17: nothing is reached", x.take(1, 0) || x.take(1, 1) || x.take(1, 2), false);
    }

    private static void promise17WithoutSteps() {
        OctagonDesk x = new OctagonDesk();
        x.act(4, ANY, 2, 5, 6);
        CHECK.due("17: no steps", x.run(4), 1);
        CHECK.due("17: point 0", x.take(1, 0), true);
        CHECK.due("17: has the slot's shape", x.inside(1, 4) && x.inside(4, 1), true);
        for (int point = 1; point < 8; point++) {
            CHECK.due("17: point " + point, x.take(1, point), false);
        }
        x.act(4, ANY, 2, 7, 7);
        x.take(1, 0);
        CHECK.due("17: as it was when it was run", x.most(1, 4, 4), 6);
    }

    /** Forwards nothing is widened, however late the round is. */
    private static void promise17WideningBackwardsAlone() {
        OctagonDesk x = new OctagonDesk();
        x.act(0, ANY, 0, 0, 0);
        x.step(way(6, 7), BOUND, 0, 0, 1000000);
        x.step(way(5, 6), TELLING, 0, 0, 1);
        x.step(way(4, 5), TELLING, 0, 0, 1);
        x.step(way(3, 4), TELLING, 0, 0, 1);
        x.step(way(2, 3), TELLING, 0, 0, 1);
        x.step(way(1, 2), TELLING, 0, 0, 1);
        x.step(way(0, 1), TELLING, 0, 0, 1);
        x.step(way(0, 6), TELLING, 0, 0, 0);
        CHECK.due("17: a round for each point", x.run(0), 8);
        x.take(1, 7);
        CHECK.due("17: x0", x.most(1, 0, 0), 6);
        CHECK.due("17: -x0", x.most(1, 1, 1), 0);
    }

    /** A step to its own point is one to a point not above. */
    private static void promise17WideningFromTheFourthRound() {
        OctagonDesk x = new OctagonDesk();
        x.act(0, ANY, 0, 0, 0);
        x.step(way(0, 0), TELLING, 0, 0, 1);
        CHECK.due("17: to itself", x.run(0), 5);
        x.take(1, 0);
        CHECK.due("17: x0", x.most(1, 0, 0), INFINITE);
        CHECK.due("17: -x0", x.most(1, 1, 1), 0);
        x.erase();
        x.step(way(0, 1), BOUND, 0, 0, 2);
        x.step(way(1, 0), TELLING, 0, 0, 1);
        CHECK.due("17: three rounds of joins are enough", x.run(0), 4);
        x.take(1, 0);
        CHECK.due("17: not widened", x.most(1, 0, 0), 3);
        x.erase();
        x.step(way(0, 1), BOUND, 0, 0, 3);
        x.step(way(1, 0), TELLING, 0, 0, 1);
        CHECK.due("17: the fourth widens", x.run(0), 5);
        x.take(1, 0);
        CHECK.due("17: widened", x.most(1, 0, 0), INFINITE);
        x.take(1, 1);
        CHECK.due("17: held by the bound", x.most(1, 0, 0), 3);
    }

    private static void promise17InOrder() {
        OctagonDesk x = new OctagonDesk();
        x.step(way(0, 1), ANY, 0, 1, 1);
        x.step(way(1, 2), TELLING, 0, 0, 1);
        CHECK.due("17: in the order of the points", x.run(0), 2);
        x.erase();
        x.step(way(1, 2), TELLING, 0, 0, 1);
        x.step(way(0, 1), ANY, 0, 1, 1);
        CHECK.due("17: against it", x.run(0), 3);
    }

    private static OctagonDesk told(FoundProgram found) {
        OctagonDesk x = new OctagonDesk();
        found.fill(x, 0);
        found.tell(x);
        return x;
    }

    private static void promise17TheThirtiethRound() {
        OctagonDesk x = told(FoundProgram.thirtyRounds());
        CHECK.due("17: 30 rounds", x.run(0), 30);
        CHECK.due("17: have not failed", x.take(1, 2), true);
    }

    private static void promise17TheThirtyFirstRound() {
        OctagonDesk x = told(FoundProgram.thirtyOneRounds());
        CHECK.due("17: 31 rounds are too many", x.run(0), NONE);
        CHECK.due("17: and leave nothing", x.take(1, 2), false);
    }

    private static void promise17Failed() {
        OctagonDesk x = told(FoundProgram.endless());
        x.act(1, ANY, 0, 3, 4);
        CHECK.due("17: its steps", x.erase(), 5);
        CHECK.due("17: first a good run", x.run(1), 1);
        FoundProgram.endless().tell(x);
        CHECK.due("17: failed", x.run(0), NONE);
        CHECK.due("17: what was run before stays", x.take(2, 0), true);
        CHECK.due("17: all of it", x.inside(2, 1) && x.inside(1, 2), true);
        CHECK.due("17: the steps stay", x.erase(), 5);
        OctagonDesk y = told(FoundProgram.endless());
        CHECK.due("17: failed at once", y.run(0), NONE);
        CHECK.due("17: nothing was run", y.take(2, 0), false);
    }

    private static void promise17Wrong() {
        OctagonDesk x = new OctagonDesk();
        tellCountingLoop(x);
        x.run(0);
        x.erase();
        for (int bad : NO_SLOTS) {
            CHECK.badArgument("17: slot " + bad, () -> x.run(bad));
        }
        CHECK.due("17: the last run stays", x.take(1, 2), true);
        CHECK.due("17: as it was", x.most(1, 0, 0), 9);
    }

    private static void promise18Take() {
        OctagonDesk x = new OctagonDesk();
        CHECK.due("18: nothing run", x.take(5, 0), false);
        CHECK.due("18: empty", x.isEmpty(5), true);
        tellCountingLoop(x);
        x.run(0);
        CHECK.due("18: a point", x.take(5, 2), true);
        CHECK.due("18: its shape", x.most(5, 0, 0), 9);
        x.act(5, BOUND, 0, 0, 1);
        x.take(4, 2);
        CHECK.due("18: a change of the slot does not change the point", x.most(4, 0, 0), 9);
        CHECK.due("18: a point that was not reached", x.take(4, 7), false);
        CHECK.due("18: is empty", x.isEmpty(4), true);
        x.act(3, ANY, 0, 6, 6);
        for (int bad : NO_SLOTS) {
            CHECK.badArgument("18: slot " + bad, () -> x.take(bad, 0));
        }
        for (int bad : new int[] {-1, 8, Integer.MIN_VALUE, Integer.MAX_VALUE}) {
            CHECK.badArgument("18: point " + bad, () -> x.take(3, bad));
        }
        CHECK.due("18: after wrong calls", x.most(3, 0, 0), 6);
        x.take(3, 0);
        CHECK.due("18: point 0 has the slot's shape", x.bounds(3), 0);
    }
}
