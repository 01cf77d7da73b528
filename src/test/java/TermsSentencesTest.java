import java.io.IOException;

/** Every sentence of 'What it is' and of 'Terms', in the document's order. */
public final class TermsSentencesTest {
    private static final Check CHECK = new Check("TermsSentences");
    private static final Sentences ABOUT = new Sentences(CHECK);
    private static final long INFINITE = OctagonDesk.INFINITE;
    private static final int NONE = OctagonDesk.NONE;
    private static final int BOUND = Desks.BOUND;
    private static final int TELLING = Desks.TELLING;
    private static final int ANY = Desks.ANY;
    private static final int MILLION = 1000000;

    public static void main(String[] args) throws IOException {
        ABOUT.section("What it is");
        octagons();
        callLimit();
        ABOUT.section("Terms");
        variables();
        terms();
        bounds();
        negation();
        shapes();
        slots();
        mosts();
        joins();
        wideningsByNumbers();
        wideningsOfBoxes();
        wideningsOfEmpty();
        actionBound();
        actionTelling();
        actionAny();
        numbers();
        programs();
        runs();
        rounds();
        roundsByHand();
        overAndFailed();
        throwing();
        arguments();
        ABOUT.lookWhetherAllWere("What it is", "Terms");
        CHECK.finish();
    }

    private static int way(int from, int to) {
        return Desks.way(from, to);
    }

    private static void octagons() {
        ABOUT.next("Octagons over whole numbers: sets of places bounded by sums and differences of two variables,"
            + " always as tight as the whole numbers in them let them be; joined, widened, projected, told new values;"
            + " and small programs gone through with them until nothing new is reached.");
        OctagonDesk x = new OctagonDesk();
        x.act(0, BOUND, 0, 2, 7);
        x.act(0, BOUND, 0, 3, 2);
        CHECK.due("tight: x0 is at most 4, not 4 1/2", Desks.text(x, 0), "x0<=4, x0+x1<=7, x0-x1<=2");
        x.act(1, BOUND, 0, 0, 9);
        x.join(1, 0, 1);
        CHECK.due("joined with x0 <= 9", Desks.text(x, 1), "x0<=9");
        x.widen(1, 0, 1);
        CHECK.due("widened by that", Desks.text(x, 1), "all");
        x.copy(2, 0);
        x.forget(2, 1);
        CHECK.due("projected", Desks.text(x, 2), "x0<=4");
        x.act(2, TELLING, 1, 0, 3);
        CHECK.due("told a new value", Desks.text(x, 2), "x0<=4, x0+x1<=11, x0-x1<=-3, -x0+x1<=3, x1<=7");
        nothingNewIsReached();
    }

    /** Each step, taken once more behind the run, leads to places that its end has. */
    private static void nothingNewIsReached() {
        OctagonDesk x = new OctagonDesk();
        Desks.tellCountingLoop(x);
        CHECK.due("run", x.run(0), 6);
        int[][] steps = {{0, 1, ANY, 0, 0, 0}, {1, 2, BOUND, 0, 0, 9}, {2, 1, TELLING, 0, 0, 1}, {1, 3, BOUND, 1, 1, -10}};
        for (int[] step : steps) {
            x.take(1, step[0]);
            x.act(1, step[2], step[3], step[4], step[5]);
            x.take(2, step[1]);
            CHECK.due("nothing new from " + step[0] + " to " + step[1], x.inside(1, 2), true);
            CHECK.due("but it is reached", x.isEmpty(2), false);
        }
    }

    private static void callLimit() {
        ABOUT.next("An object is used for at most 512 calls after it has been made; what later calls answer is free.");
        OctagonDesk x = new OctagonDesk();
        x.act(0, ANY, 0, 0, 0);
        for (int call = 2; call < 512; call++) {
            if (!x.act(0, TELLING, 0, 0, 1)) {
                CHECK.due("call " + call, false, true);
            }
        }
        CHECK.due("call 512", x.first(0, 0), 510);
    }

    private static void variables() {
        ABOUT.next("VARIABLES x0 .. x5 are whole numbers of any size; a PLACE gives each of them a value.");
        int[] values = {-MILLION, -3, 0, 7, 999, MILLION};
        OctagonDesk x = new OctagonDesk();
        for (int i = 0; i < 6; i++) {
            CHECK.due("x" + i, x.act(0, ANY, i, values[i], values[i]), true);
        }
        for (int i = 0; i < 6; i++) {
            CHECK.due("value of x" + i, x.first(0, i), values[i]);
        }
        CHECK.due("one place", x.places(0), 1);
        CHECK.badArgument("no x6", () -> x.first(0, 6));
        CHECK.badArgument("no x-1", () -> x.first(0, -1));
        for (int doublings = 0; doublings <= 42; doublings += 6) {
            OctagonDesk y = new OctagonDesk();
            Desks.makeDifference(y, MILLION, doublings);
            long size = (long) MILLION << doublings;
            CHECK.due("x1 - x0 is a million times 2^" + doublings, y.most(0, 2, 1), size);
            CHECK.due("x0 - x1", y.most(0, 0, 3), -size);
            y.act(0, BOUND, 0, 0, 1);
            y.act(0, BOUND, 1, 1, -1);
            CHECK.due("x1, x0 being 1", y.first(0, 1), size + 1);
        }
    }

    private static void terms() {
        ABOUT.next("TERMS: 2 i is xi, 2 i + 1 is - xi.");
        for (int i = 0; i < 6; i++) {
            OctagonDesk x = new OctagonDesk();
            x.act(0, BOUND, 2 * i, 2 * i, 8);
            CHECK.due("term " + 2 * i, Desks.text(x, 0), "x" + i + "<=8");
            x.act(0, BOUND, 2 * i + 1, 2 * i + 1, 3);
            CHECK.due("term " + (2 * i + 1), Desks.text(x, 0), "x" + i + "<=8, -x" + i + "<=3");
            CHECK.due("least", x.first(0, i), -3);
        }
    }

    private static void bounds() {
        ABOUT.next("A BOUND (p, q, c) with two terms, c whole, says that p + q is at most c; (p, p, c) that p alone is.");
        for (int p = 0; p < 12; p++) {
            for (int q = 0; q < 12; q++) {
                if (q == (p ^ 1)) {
                    continue;
                }
                OctagonDesk x = new OctagonDesk();
                x.act(0, BOUND, p, q, -5);
                CHECK.due(p + ", " + q + ", -5", Desks.text(x, 0), Desks.name(Math.min(p, q), Math.max(p, q)) + "<=-5");
                x.act(0, BOUND, q, p, -6);
                CHECK.due(q + ", " + p + ", -6", x.most(0, p, q), -6);
                x.act(0, BOUND, p, q, -5);
                CHECK.due("a bound that held already", x.most(0, q, p), -6);
                CHECK.due("is but one", x.bounds(0), 1);
            }
        }
    }

    private static void negation() {
        ABOUT.next("p and q are not each other's negation.");
        OctagonDesk x = new OctagonDesk();
        for (int p = 0; p < 12; p++) {
            int term = p;
            CHECK.badArgument("a bound of " + p, () -> x.act(0, BOUND, term, term ^ 1, 0));
            CHECK.badArgument("a step's bound of " + p, () -> x.step(0, BOUND, term, term ^ 1, 0));
            CHECK.badArgument("most of " + p, () -> x.most(0, term, term ^ 1));
        }
        CHECK.due("nothing is bounded", x.bounds(0), 0);
        CHECK.due("no step", x.erase(), 0);
    }

    private static void shapes() {
        ABOUT.next("A SHAPE is the set of all PLACES at which some BOUNDS hold (without BOUNDS: all PLACES);"
            + " it is EMPTY if there is none.");
        OctagonDesk x = new OctagonDesk();
        CHECK.due("without bounds", Desks.text(x, 0), "all");
        int[][] bounds = {{0, 3, 2}, {2, 5, -1}, {4, 6, 4}, {7, 1, 0}, {0, 0, 3}};
        for (int i = 0; i < bounds.length; i++) {
            int[] back = bounds[bounds.length - 1 - i];
            x.act(0, BOUND, bounds[i][0], bounds[i][1], bounds[i][2]);
            x.act(1, BOUND, back[0], back[1], back[2]);
        }
        CHECK.due("in another order", Desks.same(x, 0, 1), true);
        CHECK.due("text", Desks.text(x, 0), Desks.text(x, 1));
        OctagonDesk y = new OctagonDesk();
        y.act(0, BOUND, 0, 2, 1);
        y.act(0, BOUND, 1, 3, -1);
        y.act(0, BOUND, 0, 3, 1);
        CHECK.due("x0 + x1 is 1, x0 at most x1 + 1", y.isEmpty(0), false);
        y.copy(1, 0);
        y.act(0, BOUND, 0, 3, 0);
        CHECK.due("x0 at most x1", Desks.text(y, 0), "x0<=0, x0+x1<=1, x0-x1<=-1, -x0-x1<=-1, -x1<=-1");
        y.act(0, BOUND, 1, 2, 0);
        CHECK.due("x0 is x1: no whole numbers", Desks.text(y, 0), "EMPTY");
        y.act(1, BOUND, 1, 2, -1);
        CHECK.due("x0 is x1 + 1", y.first(1, 0) * 10 + y.first(1, 1), 10);
    }

    private static void slots() {
        ABOUT.next("SLOTS 0 .. 5 each have one, all PLACES at first.");
        OctagonDesk x = new OctagonDesk();
        for (int slot = 0; slot < 6; slot++) {
            CHECK.due("slot " + slot + " at first", x.bounds(slot), 0);
            CHECK.due("slot " + slot + " is not EMPTY", x.isEmpty(slot), false);
            x.act(slot, BOUND, 0, 0, slot);
        }
        for (int slot = 0; slot < 6; slot++) {
            CHECK.due("slot " + slot + " has its own", x.most(slot, 0, 0), slot);
        }
        CHECK.badArgument("slot 6", () -> x.isEmpty(6));
        CHECK.badArgument("slot -1", () -> x.isEmpty(-1));
    }

    private static void mosts() {
        ABOUT.next("MOST of p and q in a SHAPE that is not EMPTY is the greatest that p + q (if they are the same:"
            + " p alone) has at its PLACES, INFINITE without one.");
        for (int sum = -7; sum <= 7; sum++) {
            for (int difference = -5; difference <= 5; difference += 2) {
                OctagonDesk x = new OctagonDesk();
                SmallBox.fill(x, 0, -2, 4);
                x.act(0, BOUND, 0, 2, sum);
                x.act(0, BOUND, 3, 0, difference);
                SmallBox due = SmallBox.of(-2, 4).held(0, 2, sum).held(0, 3, difference);
                CHECK.due("x0 + x1 <= " + sum + ", x0 - x1 <= " + difference, Desks.text(x, 0), due.text());
            }
        }
        OctagonDesk x = new OctagonDesk();
        x.act(0, BOUND, 6, 6, 2);
        for (int p = 0; p < 12; p++) {
            for (int q = 0; q < 12; q++) {
                if (p != (q ^ 1)) {
                    CHECK.due("most(0, " + p + ", " + q + ")", x.most(0, p, q), p == 6 && q == 6 ? 2 : INFINITE);
                }
            }
        }
        CHECK.due("INFINITE", INFINITE, 9223372036854775807L);
    }

    private static void joins() {
        ABOUT.next("THE JOIN of two SHAPES: all BOUNDS that hold at all PLACES of both.");
        for (int p = 0; p < 4; p++) {
            for (int q = 0; q < 4; q++) {
                if (q == (p ^ 1)) {
                    continue;
                }
                OctagonDesk x = new OctagonDesk();
                SmallBox.fill(x, 0, 0, 3);
                x.act(0, BOUND, p, q, 1);
                SmallBox.fill(x, 1, 2, 5);
                x.act(1, BOUND, p ^ 1, q ^ 1, -3);
                SmallBox due = SmallBox.of(0, 3).held(p, q, 1).and(SmallBox.of(2, 5).held(p ^ 1, q ^ 1, -3));
                x.join(2, 0, 1);
                CHECK.due("boxes cut by " + p + ", " + q, Desks.text(x, 2), due.text());
                x.join(3, 1, 0);
                CHECK.due("the other way round", Desks.same(x, 2, 3), true);
            }
        }
        OctagonDesk x = new OctagonDesk();
        x.act(0, BOUND, 0, 3, 1);
        x.act(0, BOUND, 2, 5, 1);
        x.act(1, BOUND, 0, 5, 9);
        x.join(2, 0, 1);
        CHECK.due("a chain of two and a bound", Desks.text(x, 2), "x0-x2<=9");
        Desks.makeEmpty(x, 3);
        x.join(4, 3, 2);
        CHECK.due("EMPTY has no place at which a bound could not hold", Desks.text(x, 4), "x0-x2<=9");
        x.join(4, 2, 3);
        CHECK.due("nor as the second", Desks.text(x, 4), "x0-x2<=9");
        x.join(4, 3, 3);
        CHECK.due("two of them", Desks.text(x, 4), "EMPTY");
    }

    private static void wideningsByNumbers() {
        ABOUT.next("THE WIDENING of a by b: those BOUNDS (p, q, c), c being MOST in a, in which MOST in b is not"
            + " greater than c; b if a is EMPTY, a if b is.");
        for (int p = 0; p < 12; p += 5) {
            for (int q = 0; q < 12; q++) {
                for (int c = 6; c <= 8 && q != (p ^ 1); c++) {
                    OctagonDesk x = new OctagonDesk();
                    x.act(0, BOUND, p, q, 7);
                    x.act(1, BOUND, p, q, c);
                    x.widen(2, 0, 1);
                    CHECK.due(p + ", " + q + " at 7 by " + c, x.most(2, p, q), c <= 7 ? 7 : INFINITE);
                    CHECK.due("and nothing else", x.bounds(2), c <= 7 ? 1 : 0);
                }
            }
        }
    }

    /** By boxes that are greater on one side alone, all other bounds stay. */
    private static void wideningsOfBoxes() {
        for (int p = 0; p < 4; p++) {
            OctagonDesk x = new OctagonDesk();
            SmallBox.fill(x, 0, -2, 2);
            SmallBox.fill(x, 1, -2, 2);
            x.act(1, ANY, p / 2, p % 2 == 0 ? -2 : -3, p % 2 == 0 ? 3 : 2);
            x.widen(2, 0, 1);
            StringBuilder due = new StringBuilder();
            for (int q = 0; q < 4; q++) {
                for (int r = q; r < 4; r++) {
                    if (r != (q ^ 1) && q != p && r != p) {
                        due.append(due.length() == 0 ? "" : ", ");
                        due.append(Desks.name(q, r)).append("<=").append(q == r ? 2 : 4);
                    }
                }
            }
            CHECK.due("greater in " + Desks.name(p, p), Desks.text(x, 2), due.toString());
            x.widen(3, 1, 0);
            CHECK.due("not by a smaller box", Desks.same(x, 3, 1), true);
        }
        OctagonDesk x = new OctagonDesk();
        SmallBox.fill(x, 0, 0, 2);
        x.act(0, BOUND, 0, 2, 3);
        SmallBox.fill(x, 1, 0, 2);
        x.widen(2, 0, 1);
        CHECK.due("x0 + x1, though 4 in b, is held by the two alone", x.most(2, 0, 2), 4);
    }

    private static void wideningsOfEmpty() {
        for (int how = 0; how < Desks.WAYS_TO_EMPTY; how++) {
            OctagonDesk x = new OctagonDesk();
            Desks.makeEmpty(x, 0, how);
            x.act(1, BOUND, 4, 7, 5);
            x.widen(2, 0, 1);
            CHECK.due("a is EMPTY", Desks.text(x, 2), "x2-x3<=5");
            x.widen(2, 1, 0);
            CHECK.due("b is EMPTY", Desks.text(x, 2), "x2-x3<=5");
            x.widen(2, 0, 0);
            CHECK.due("both are", x.isEmpty(2), true);
        }
    }

    private static void actionBound() {
        ABOUT.next("ACTIONS make a SHAPE of one: 0 a BOUND a, b, c: its PLACES at which it holds.");
        for (int p = 0; p < 4; p++) {
            for (int q = p; q < 4; q++) {
                for (int c = -7; c <= 7 && q != (p ^ 1); c += p == q ? 1 : 2) {
                    OctagonDesk x = new OctagonDesk();
                    SmallBox.fill(x, 0, -3, 3);
                    x.act(0, BOUND, 0, 2, 1);
                    SmallBox due = SmallBox.of(-3, 3).held(0, 2, 1).held(p, q, c);
                    CHECK.due(Desks.name(p, q) + " <= " + c, x.act(0, 0, p, q, c), !due.places.isEmpty());
                    CHECK.due("leaves", Desks.text(x, 0), due.text());
                }
            }
        }
    }

    private static void actionTelling() {
        ABOUT.next("1 TELLING xa the term b and c more: the PLACES that come of its PLACES, if xa becomes"
            + " b (as it was) + c, all others staying.");
        for (int a = 0; a < 2; a++) {
            for (int term = 0; term < 4; term++) {
                for (int c = -4; c <= 4; c += 4) {
                    OctagonDesk x = new OctagonDesk();
                    SmallBox.fill(x, 0, -1, 3);
                    x.act(0, BOUND, 0, 3, 1);
                    SmallBox due = SmallBox.of(-1, 3).held(0, 3, 1).told(a, term, c);
                    CHECK.due("x" + a + " becomes " + Desks.name(term, term) + " + " + c, x.act(0, 1, a, term, c), true);
                    CHECK.due("leaves", Desks.text(x, 0), due.text());
                }
            }
        }
        OctagonDesk x = new OctagonDesk();
        x.act(0, BOUND, 0, 3, 1);
        x.act(0, BOUND, 2, 5, 1);
        x.act(0, TELLING, 1, 11, 6);
        CHECK.due("x1 becomes 6 - x5, x0 - x2 staying", Desks.text(x, 0), "x0-x2<=2, x1+x5<=6, -x1-x5<=-6");
    }

    private static void actionAny() {
        ABOUT.next("2 ANY: the PLACES that come of them, if xa becomes any number from b to c.");
        for (int a = 0; a < 2; a++) {
            for (int b = -5; b <= 5; b += 5) {
                for (int c = b; c <= 5; c++) {
                    OctagonDesk x = new OctagonDesk();
                    SmallBox.fill(x, 0, -1, 3);
                    x.act(0, BOUND, 0, 3, 1);
                    SmallBox due = SmallBox.of(-1, 3).held(0, 3, 1).scattered(a, b, c);
                    CHECK.due("x" + a + " from " + b + " to " + c, x.act(0, 2, a, b, c), true);
                    CHECK.due("leaves", Desks.text(x, 0), due.text());
                }
            }
        }
        OctagonDesk x = new OctagonDesk();
        x.act(0, BOUND, 0, 3, 1);
        x.act(0, BOUND, 2, 5, 1);
        x.act(0, ANY, 1, 8, 8);
        CHECK.due("x1 becomes 8, x0 - x2 staying", Desks.text(x, 0), "x0-x2<=2, x1<=8, -x1<=-8");
    }

    private static void numbers() {
        ABOUT.next("Bounds of numbers: c, and of ANY b, too, are -1,000,000 .. 1,000,000, and b not above c.");
        OctagonDesk x = new OctagonDesk();
        for (int c : new int[] {-MILLION, MILLION}) {
            int beyond = c < 0 ? c - 1 : c + 1;
            CHECK.fine("BOUND " + c, () -> x.act(0, BOUND, 0, 2, c));
            CHECK.fine("TELLING " + c, () -> x.act(1, TELLING, 0, 2, c));
            CHECK.fine("ANY " + c, () -> x.act(2, ANY, 0, c, c));
            CHECK.fine("step BOUND " + c, () -> x.step(0, BOUND, 0, 2, c));
            CHECK.fine("step TELLING " + c, () -> x.step(0, TELLING, 0, 2, c));
            CHECK.fine("step ANY " + c, () -> x.step(0, ANY, 0, c, c));
            CHECK.badArgument("BOUND " + beyond, () -> x.act(0, BOUND, 0, 2, beyond));
            CHECK.badArgument("TELLING " + beyond, () -> x.act(1, TELLING, 0, 2, beyond));
            CHECK.badArgument("ANY from " + beyond, () -> x.act(2, ANY, 0, beyond, MILLION));
            CHECK.badArgument("ANY to " + beyond, () -> x.act(2, ANY, 0, -MILLION, beyond));
            CHECK.badArgument("step BOUND " + beyond, () -> x.step(0, BOUND, 0, 2, beyond));
            CHECK.badArgument("step TELLING " + beyond, () -> x.step(0, TELLING, 0, 2, beyond));
            CHECK.badArgument("step ANY from " + beyond, () -> x.step(0, ANY, 0, beyond, MILLION));
            CHECK.badArgument("step ANY to " + beyond, () -> x.step(0, ANY, 0, -MILLION, beyond));
        }
        CHECK.fine("from 4 to 4", () -> x.act(2, ANY, 0, 4, 4));
        CHECK.badArgument("from 5 to 4", () -> x.act(2, ANY, 0, 5, 4));
        CHECK.badArgument("a step from 5 to 4", () -> x.step(0, ANY, 0, 5, 4));
        CHECK.due("x0 is 4", x.most(2, 0, 0) * 10 - x.most(2, 1, 1), 44);
        CHECK.due("six steps", x.erase(), 6);
    }

    private static void programs() {
        ABOUT.next("A PROGRAM has STEPS, 20 at most, in the order in which they are told:"
            + " each from a POINT 0 .. 7 to a POINT, with an ACTION.");
        OctagonDesk x = new OctagonDesk();
        for (int i = 0; i < 20; i++) {
            CHECK.due("step " + i, x.step(way(i < 7 ? i : 7, i < 7 ? i + 1 : 0), ANY, i < 6 ? i : 5, i, i), i);
        }
        CHECK.badState("step 20", () -> x.step(0, ANY, 0, 0, 0));
        CHECK.due("all the way in the first round, and back to all places", x.run(0), 2);
        CHECK.due("point 7", x.take(1, 7), true);
        CHECK.due("x0 by the first step", x.first(1, 0), 0);
        CHECK.due("x4 by the fifth", x.first(1, 4), 4);
        CHECK.due("x5 by the seventh", x.first(1, 5), 6);
        OctagonDesk y = new OctagonDesk();
        y.act(0, ANY, 0, 0, 0);
        y.step(way(1, 2), TELLING, 0, 0, 1);
        y.step(way(0, 1), TELLING, 0, 0, 10);
        CHECK.due("told against the order of the points", y.run(0), 3);
        y.erase();
        y.step(way(0, 1), TELLING, 0, 0, 10);
        y.step(way(1, 2), TELLING, 0, 0, 1);
        CHECK.due("and with it", y.run(0), 2);
        y.take(1, 2);
        CHECK.due("one behind the other", y.first(1, 0), 11);
        CHECK.badArgument("to point 8 of the last", () -> y.step(64, TELLING, 0, 0, 1));
        CHECK.badArgument("from point -1", () -> y.step(-1, TELLING, 0, 0, 1));
    }

    private static void runs() {
        ABOUT.next("A RUN from a SHAPE: POINT 0 has it, the others are EMPTY.");
        OctagonDesk x = new OctagonDesk();
        x.act(3, BOUND, 0, 3, 4);
        x.step(way(0, 5), BOUND, 0, 0, 1);
        x.step(way(6, 7), BOUND, 0, 0, 1);
        CHECK.due("run", x.run(3), 2);
        x.take(0, 0);
        CHECK.due("point 0", Desks.text(x, 0), "x0-x1<=4");
        x.take(0, 5);
        CHECK.due("point 5", Desks.text(x, 0), "x0<=1, x0-x1<=4");
        for (int point : new int[] {1, 2, 3, 4, 6, 7}) {
            CHECK.due("point " + point, x.take(0, point), false);
        }
        Desks.makeEmpty(x, 1);
        CHECK.due("run from EMPTY", x.run(1), 1);
        for (int point = 0; point < 8; point++) {
            CHECK.due("point " + point, x.take(0, point), false);
        }
    }

    /** Point 6 has x0 from 0 to 2 before; a step from below, from itself or from above brings 5 in the round told. */
    private static void rounds() {
        ABOUT.next("In each ROUND, step by step: what its ACTION makes of the SHAPE at its beginning; if that has a PLACE"
            + " that the SHAPE at its end has not, this becomes THE JOIN of both, or, from the fourth ROUND on for STEPS"
            + " to a POINT not above that from which they come, THE WIDENING of what it was by THE JOIN.");
        for (int round = 2; round <= 6; round++) {
            for (int from = 5; from <= 7; from++) {
                OctagonDesk x = new OctagonDesk();
                x.act(0, ANY, 0, 0, 2);
                x.step(way(from, 6), ANY, 0, 5, 5);
                int behind = from;
                for (int point = round - 2; point >= 0; point--) {
                    x.step(way(point, behind), TELLING, 0, 0, 0);
                    behind = point;
                }
                if (from != 6) {
                    x.step(way(0, 6), TELLING, 0, 0, 0);
                }
                CHECK.due("from " + from + " in round " + round, x.run(0), round + 1);
                x.take(1, 6);
                CHECK.due("point 6", Desks.text(x, 1), round >= 4 && from >= 6 ? "-x0<=0" : "x0<=5, -x0<=0");
            }
        }
        OctagonDesk y = new OctagonDesk();
        y.act(0, ANY, 0, 0, 2);
        y.step(way(0, 0), BOUND, 0, 0, 1);
        CHECK.due("no place that the end has not", y.run(0), 1);
        y.take(1, 0);
        CHECK.due("the end stays", Desks.text(y, 1), "x0<=2, -x0<=0");
    }

    /** The same rounds by calls on slots: slots 0 to 3 are the points, 4 and 5 what is made and joined. */
    private static int roundsBySlots(OctagonDesk x, int[][] steps) {
        for (int round = 1; round <= 30; round++) {
            boolean changed = false;
            for (int[] step : steps) {
                int from = step[0] / 8;
                int to = step[0] % 8;
                x.copy(4, from);
                x.act(4, step[1], step[2], step[3], step[4]);
                if (x.inside(4, to)) {
                    continue;
                }
                changed = true;
                x.join(5, to, 4);
                if (round >= 4 && to <= from) {
                    x.widen(to, to, 5);
                } else {
                    x.copy(to, 5);
                }
            }
            if (!changed) {
                return round;
            }
        }
        return NONE;
    }

    private static void roundsByHand() {
        for (int seed = 1; seed <= 400; seed++) {
            Dice dice = new Dice(300 + seed);
            OctagonDesk x = new OctagonDesk();
            OctagonDesk y = new OctagonDesk();
            for (int i = 0; i < 3; i++) {
                int least = dice.from(-2, 2);
                int more = dice.below(3);
                x.act(0, ANY, i, least, least + more);
                y.act(0, ANY, i, least, least + more);
            }
            for (int point = 1; point < 4; point++) {
                Desks.makeEmpty(y, point);
            }
            int[][] steps = new int[dice.from(1, 5)][];
            for (int i = 0; i < steps.length; i++) {
                steps[i] = thrownStep(dice, i == 0);
                x.step(steps[i][0], steps[i][1], steps[i][2], steps[i][3], steps[i][4]);
            }
            compareRuns("seed " + seed, x, y, steps);
        }
    }

    private static int[] thrownStep(Dice dice, boolean fromZero) {
        int way = way(fromZero ? 0 : dice.below(4), dice.below(4));
        int p = dice.below(6);
        int q = dice.below(6);
        switch (dice.below(3)) {
            case 0: return new int[] {way, BOUND, p, q == (p ^ 1) ? p : q, dice.from(-2, 9)};
            case 1: return new int[] {way, TELLING, p / 2, q, dice.from(-2, 2)};
            default: return new int[] {way, ANY, p / 2, -q, q};
        }
    }

    /** A run of no more than 15 rounds takes fewer than 480 calls by slots. */
    private static void compareRuns(String name, OctagonDesk x, OctagonDesk y, int[][] steps) {
        int rounds = x.run(0);
        if (rounds == NONE || rounds > 15) {
            return;
        }
        CHECK.due(name + ", rounds", rounds, roundsBySlots(y, steps));
        for (int point = 0; point < 4; point++) {
            x.take(1, point);
            CHECK.due(name + ", point " + point + " is EMPTY", x.isEmpty(1), y.isEmpty(point));
            for (int p = 0; p < 6 && !x.isEmpty(1); p++) {
                CHECK.due(name + ", point " + point + ", term " + p, x.most(1, p, p), y.most(point, p, p));
                CHECK.due(name + ", point " + point + ", sum with " + p, x.most(1, p, (p + 2) % 6), y.most(point, p, (p + 2) % 6));
            }
        }
    }

    private static int roundsOf(FoundProgram found) {
        OctagonDesk x = new OctagonDesk();
        found.fill(x, 0);
        found.tell(x);
        return x.run(0);
    }

    private static void overAndFailed() {
        ABOUT.next("It is over with the first ROUND in which nothing changes, but after 30 ROUNDS it has FAILED.");
        for (int edges = 0; edges < 8; edges++) {
            OctagonDesk x = new OctagonDesk();
            for (int point = edges - 1; point >= 0; point--) {
                x.step(way(point, point + 1), TELLING, 0, 0, 0);
            }
            CHECK.due(edges + " rounds in which something changes", x.run(0), edges + 1);
        }
        CHECK.due("29 rounds in which something changes", roundsOf(FoundProgram.thirtyRounds()), 30);
        CHECK.due("30 rounds in which something changes", roundsOf(FoundProgram.thirtyOneRounds()), NONE);
        CHECK.due("changes without end", roundsOf(FoundProgram.endless()), NONE);
        CHECK.due("NONE", NONE, -1);
    }

    private static void throwing() {
        ABOUT.next("A call that throws changes nothing; where it lists more than one exception, the first one wins.");
        OctagonDesk x = new OctagonDesk();
        x.act(0, BOUND, 0, 3, 4);
        Desks.makeEmpty(x, 1);
        for (int i = 0; i < 20; i++) {
            x.step(way(0, 1), ANY, 0, i, i);
        }
        x.run(0);
        CHECK.badArgument("act", () -> x.act(0, BOUND, 0, 0, MILLION + 1));
        CHECK.badArgument("act of a kind that is none", () -> x.act(0, 3, 0, 0, 0));
        CHECK.badArgument("clear", () -> x.clear(6));
        CHECK.badArgument("copy", () -> x.copy(0, 6));
        CHECK.badArgument("meet", () -> x.meet(0, 1, 6));
        CHECK.badArgument("join", () -> x.join(0, 2, 6));
        CHECK.badArgument("widen", () -> x.widen(0, 2, -1));
        CHECK.badArgument("forget", () -> x.forget(0, 6));
        CHECK.badArgument("run", () -> x.run(6));
        CHECK.badArgument("take", () -> x.take(0, 8));
        CHECK.badState("step, there being 20", () -> x.step(way(0, 2), ANY, 0, 0, 0));
        CHECK.badArgument("step, there being 20, and no such point", () -> x.step(64, ANY, 0, 0, 0));
        CHECK.badArgument("step, there being 20, and no such number", () -> x.step(0, ANY, 0, 1, 0));
        CHECK.badState("most of EMPTY", () -> x.most(1, 0, 0));
        CHECK.badArgument("most of EMPTY, and no such term", () -> x.most(1, 0, 12));
        CHECK.badArgument("most of EMPTY, and each other's negation", () -> x.most(1, 0, 1));
        CHECK.badState("first of EMPTY", () -> x.first(1, 0));
        CHECK.badArgument("first of EMPTY, and no such variable", () -> x.first(1, 6));
        CHECK.due("slot 0 stays", Desks.text(x, 0), "x0-x1<=4");
        CHECK.due("slot 1 stays", Desks.text(x, 1), "EMPTY");
        x.take(2, 1);
        CHECK.due("what was run stays", Desks.text(x, 2), "x0<=19, -x0<=0");
        CHECK.due("the steps stay", x.erase(), 20);
    }

    private static void arguments() {
        ABOUT.next("IllegalArgument: there is no such slot, term, variable, point, or number,"
            + " or terms are each other's negation.");
        OctagonDesk x = new OctagonDesk();
        for (int far : new int[] {-1, 6, Integer.MIN_VALUE, Integer.MAX_VALUE}) {
            CHECK.badArgument("slot " + far, () -> x.act(far, ANY, 0, 0, 0));
            CHECK.badArgument("variable " + far, () -> x.act(0, ANY, far, 0, 0));
            CHECK.badArgument("told variable " + far, () -> x.act(0, TELLING, far, 0, 0));
            CHECK.badArgument("term " + 2 * far, () -> x.act(0, BOUND, far < 0 ? far : 2 * far, 0, 0));
            CHECK.badArgument("told term " + far, () -> x.act(0, TELLING, 0, far < 0 ? far : far + 6, 0));
            CHECK.badArgument("point " + far, () -> x.take(0, far == 6 ? 8 : far));
            CHECK.badArgument("way " + far, () -> x.step(far == 6 ? 64 : far, ANY, 0, 0, 0));
        }
        for (int far : new int[] {-MILLION - 1, MILLION + 1, Integer.MIN_VALUE, Integer.MAX_VALUE}) {
            CHECK.badArgument("number " + far, () -> x.act(0, BOUND, 0, 2, far));
        }
        CHECK.badArgument("x2 - x2", () -> x.act(0, BOUND, 4, 5, 0));
        CHECK.badArgument("-x2 + x2", () -> x.act(0, BOUND, 5, 4, 0));
        CHECK.due("x2 becomes its own negation", x.act(0, TELLING, 2, 5, 0), true);
        CHECK.due("nothing else was done", Desks.text(x, 0), "all");
    }
}
