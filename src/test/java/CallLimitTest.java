/** "An object is used for at most 512 calls after it has been made; what later calls answer is free." */
public final class CallLimitTest {
    private static final Check CHECK = new Check("CallLimit");
    private static final int LIMIT = 512;
    private static final int BOUND = Desks.BOUND;
    private static final int TELLING = Desks.TELLING;
    private static final int ANY = Desks.ANY;
    private static final int MILLION = 1000000;

    interface DeskAnswer {
        Object of(OctagonDesk x);
    }

    public static void main(String[] args) {
        lastCallOfEachSort();
        callsThatThrowAllTheTime();
        dearestCallsAllTheTime();
        callsBehindTheLast();
        CHECK.finish();
    }

    /** 511 calls: slot 0 has x0 = 501 times a million and x1 one more; slot 1 is EMPTY; one step was run. */
    private static OctagonDesk nearlyUsedUp() {
        OctagonDesk x = new OctagonDesk();
        int calls = 0;
        x.act(0, ANY, 0, MILLION, MILLION);
        x.act(0, TELLING, 1, 0, 1);
        x.act(1, BOUND, 0, 0, 0);
        x.act(1, BOUND, 1, 1, -1);
        x.step(Desks.way(0, 1), TELLING, 2, 0, 5);
        calls += 5;
        for (; calls < LIMIT - 3; calls++) {
            x.act(0, TELLING, 0, 0, MILLION);
        }
        x.act(0, TELLING, 1, 0, 1);
        x.run(0);
        return x;
    }

    private static void last(String call, Object due, DeskAnswer answer) {
        OctagonDesk x = nearlyUsedUp();
        String got;
        try {
            got = "" + answer.of(x);
        } catch (RuntimeException e) {
            got = e.getClass().getSimpleName();
        }
        CHECK.due("call 512, " + call, got, "" + due);
    }

    private static void lastCallOfEachSort() {
        CHECK.sentence("An object is used for at most 512 calls");
        long x0 = (LIMIT - 3 - 5 + 1) * (long) MILLION;
        last("act", true, x -> x.act(0, BOUND, 1, 3, -MILLION));
        last("act to EMPTY", false, x -> x.act(0, BOUND, 0, 0, 0));
        last("meet", false, x -> x.meet(2, 0, 1));
        last("isEmpty", true, x -> x.isEmpty(1));
        last("most", x0, x -> x.most(0, 0, 0));
        last("most of a sum", 2 * x0 + 1, x -> x.most(0, 0, 2));
        last("most of EMPTY", "IllegalStateException", x -> x.most(1, 0, 0));
        last("inside", true, x -> x.inside(1, 0));
        last("bounds", 8, x -> x.bounds(0));
        last("first", x0 + 1, x -> x.first(0, 1));
        last("places", -1, x -> x.places(0));
        last("step", 1, x -> x.step(63, ANY, 0, 0, 0));
        last("erase", 1, x -> x.erase());
        last("run", 2, x -> x.run(0));
        last("take", true, x -> x.take(3, 1));
        last("a wrong slot", "IllegalArgumentException", x -> x.places(6));
    }

    private static void callsThatThrowAllTheTime() {
        CHECK.sentence("An object is used for at most 512 calls (those that throw with them)");
        OctagonDesk x = new OctagonDesk();
        x.act(0, ANY, 0, 4, 4);
        for (int call = 2; call < LIMIT; call++) {
            CHECK.badArgument("call " + call, () -> x.act(0, ANY, 0, 4, MILLION + 1));
        }
        CHECK.due("call 512", x.most(0, 0, 0), 4);
    }

    /** A full program that comes to no end before the 30th round, run some 490 times. */
    private static void dearestCallsAllTheTime() {
        CHECK.sentence("An object is used for at most 512 calls (of the dearest sort)");
        OctagonDesk x = new OctagonDesk();
        int calls = 0;
        FoundProgram.endless().fill(x, 0);
        for (int i = 0; i < 4; i++) {
            FoundProgram.endless().tell(x);
        }
        calls += 25;
        for (; calls < LIMIT - 1; calls++) {
            CHECK.due("call " + calls, x.run(0), OctagonDesk.NONE);
        }
        CHECK.due("call 512", x.take(1, 0), false);
    }

    /** Their answers are free, but they come to an end, and throw nothing that the document does not list. */
    private static void callsBehindTheLast() {
        CHECK.sentence("what later calls answer is free");
        OctagonDesk x = new OctagonDesk();
        Desks.makeDifference(x, 3, 1);
        for (int i = 0; i < 400; i++) {
            Desks.makeDifference(x, MILLION, 1);
            x.clear(4);
            String thrown = Check.thrownBy(() -> x.most(0, 0, 3));
            CHECK.due("most, later", thrown.equals("nothing") || thrown.equals("IllegalStateException"), true);
            CHECK.fine("places, later", () -> x.places(0));
            thrown = Check.thrownBy(() -> x.step(0, TELLING, 1, 2, 1));
            CHECK.due("step, later", thrown.equals("nothing") || thrown.equals("IllegalStateException"), true);
            CHECK.fine("run, later", () -> x.run(0));
            CHECK.fine("take, later", () -> x.take(0, 0));
        }
        OctagonDesk y = new OctagonDesk();
        CHECK.due("another object is new", y.bounds(0), 0);
    }
}
