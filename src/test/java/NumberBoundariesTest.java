/** The document's sentences on numbers: any size, as tight as whole numbers let them be, c's limits. */
public final class NumberBoundariesTest {
    private static final Check CHECK = new Check("NumberBoundaries");
    private static final long INFINITE = OctagonDesk.INFINITE;
    private static final int NONE = OctagonDesk.NONE;
    private static final int BOUND = Desks.BOUND;
    private static final int TELLING = Desks.TELLING;
    private static final int ANY = Desks.ANY;
    private static final int MILLION = 1000000;
    private static final int[] NO_NUMBERS = {-MILLION - 1, MILLION + 1, Integer.MIN_VALUE, Integer.MAX_VALUE};
    private static final int START_BITS = 19;

    public static void main(String[] args) {
        constants();
        anySizeAroundInt();
        anySizeAroundLong();
        anySizeBySumsOfMillions();
        anySizeByRuns();
        anySizeBeyondLongCompared();
        anySizeBeyondLongCounted();
        anySizeBeyondLongRun();
        tightHalves();
        tightEmptiness();
        tightAfterEveryCall();
        numberOfBound();
        numberOfTelling();
        numbersOfAny();
        numbersOfAnyInOrder();
        numbersOfSteps();
        CHECK.finish();
    }

    private static void constants() {
        CHECK.sentence("INFINITE = 9223372036854775807L; NONE = -1");
        CHECK.due("INFINITE", INFINITE, Long.MAX_VALUE);
        CHECK.due("NONE", NONE, -1);
    }

    /** x1 - x0 is two to the power of bits, and more; then x0 is 0 and x1 alone is that number. */
    private static OctagonDesk exactDifference(int bits, int more) {
        OctagonDesk x = new OctagonDesk();
        Desks.makeDifference(x, 1 << START_BITS, bits - START_BITS);
        x.act(0, TELLING, 1, 2, more);
        x.copy(2, 0);
        x.act(2, BOUND, 0, 0, 0);
        x.act(2, BOUND, 1, 1, 0);
        return x;
    }

    private static void lookAtDifference(int bits, int more, long due) {
        OctagonDesk x = exactDifference(bits, more);
        String number = "2^" + bits + " + " + more;
        CHECK.due(number + " as x1 - x0", x.most(0, 1, 2), due);
        CHECK.due(number + " as least x1 - x0", x.most(0, 0, 3), -due);
        CHECK.due(number + " as one bound and its negation", x.bounds(0), 2);
        CHECK.due(number + " as x1", x.most(2, 2, 2), due);
        CHECK.due(number + " as least x1", x.most(2, 3, 3), -due);
        CHECK.due(number + " as the first x1", x.first(2, 1), due);
        x.act(2, TELLING, 2, 3, 0);
        CHECK.due(number + " taken from 0", x.most(2, 4, 4), -due);
        CHECK.due(number + " taken from itself", x.most(2, 4, 2), 0);
        CHECK.due(number + " taken from 0, the first", x.first(2, 2), -due);
    }

    private static void anySizeAroundInt() {
        CHECK.sentence("VARIABLES x0 .. x5 are whole numbers of any size");
        for (int bits = 30; bits <= 33; bits++) {
            for (int more = -2; more <= 2; more++) {
                lookAtDifference(bits, more, (1L << bits) + more);
            }
        }
    }

    private static void anySizeAroundLong() {
        CHECK.sentence("VARIABLES x0 .. x5 are whole numbers of any size");
        for (int bits = 60; bits <= 62; bits++) {
            for (int more = -1; more <= 1; more++) {
                lookAtDifference(bits, more, (1L << bits) + more);
            }
        }
        lookAtDifference(63, -3, INFINITE - 2);
        lookAtDifference(63, -2, INFINITE - 1);
        OctagonDesk x = exactDifference(63, 0);
        CHECK.due("-2^63 as x0 - x1", x.most(0, 0, 3), Long.MIN_VALUE);
        CHECK.due("-2^63 as -x1", x.most(2, 3, 3), Long.MIN_VALUE);
        x.act(2, TELLING, 1, 3, 0);
        CHECK.due("-2^63 as the first x1", x.first(2, 1), Long.MIN_VALUE);
        x = exactDifference(62, -1);
        x.act(2, TELLING, 2, 2, 0);
        CHECK.due("2^62 - 1 twice", x.most(2, 2, 4), INFINITE - 1);
        x = exactDifference(62, 0);
        x.act(2, TELLING, 2, 2, 0);
        CHECK.due("-2^62 twice", x.most(2, 3, 5), Long.MIN_VALUE);
        CHECK.due("2^62 - 2^62", x.most(2, 2, 5), 0);
    }

    /** By telling alone: 500 times a million more. */
    private static void anySizeBySumsOfMillions() {
        CHECK.sentence("VARIABLES x0 .. x5 are whole numbers of any size");
        OctagonDesk x = new OctagonDesk();
        x.act(0, ANY, 0, MILLION, MILLION);
        for (int i = 0; i < 500; i++) {
            x.act(0, TELLING, 0, 0, MILLION);
        }
        x.act(0, TELLING, 1, 0, MILLION);
        CHECK.due("x0", x.most(0, 0, 0), 501L * MILLION);
        CHECK.due("x0 + x1", x.most(0, 0, 2), 1003L * MILLION);
        CHECK.due("-x0 - x1", x.most(0, 1, 3), -1003L * MILLION);
    }

    /** Seven million more by each run: past what an int holds, alone and in a sum. */
    private static void anySizeByRuns() {
        CHECK.sentence("VARIABLES x0 .. x5 are whole numbers of any size");
        OctagonDesk x = new OctagonDesk();
        x.act(0, ANY, 0, 0, 0);
        for (int point = 0; point < 7; point++) {
            x.step(Desks.way(point, point + 1), TELLING, 0, 0, -MILLION);
        }
        for (int i = 0; i < 240; i++) {
            x.run(0);
            x.take(0, 7);
        }
        CHECK.due("x0", x.first(0, 0), -1680L * MILLION);
        x.act(0, TELLING, 1, 0, 0);
        CHECK.due("x0 + x1", x.most(0, 0, 2), -3360L * MILLION);
        CHECK.due("-x0 - x1", x.most(0, 1, 3), 3360L * MILLION);
    }

    private static void anySizeBeyondLongCompared() {
        CHECK.sentence("VARIABLES x0 .. x5 are whole numbers of any size");
        for (int bits = 63; bits <= 67; bits++) {
            OctagonDesk x = exactDifference(bits, 0);
            String number = "2^" + bits;
            x.copy(2, 0);
            x.act(2, TELLING, 1, 2, 1);
            CHECK.due(number + " is not one more", x.inside(0, 2), false);
            CHECK.due("one more than " + number + " is not " + number, x.inside(2, 0), false);
            CHECK.due(number + " and one more", x.meet(3, 0, 2), false);
            x.join(4, 0, 2);
            CHECK.due(number + " in the join", x.inside(0, 4), true);
            CHECK.due("one more in the join", x.inside(2, 4), true);
            CHECK.due("the join not in " + number, x.inside(4, 0), false);
            x.widen(5, 0, 4);
            CHECK.due(number + " widened by one more", x.bounds(5), 1);
            x.widen(5, 4, 0);
            CHECK.due("not widened by less", x.bounds(5), 2);
            x.act(2, TELLING, 1, 2, -1);
            CHECK.due(number + " again", Desks.same(x, 0, 2), true);
            CHECK.due(number + " and itself", x.meet(3, 0, 2), true);
        }
    }

    private static void anySizeBeyondLongCounted() {
        CHECK.sentence("VARIABLES x0 .. x5 are whole numbers of any size");
        for (int bits = 62; bits <= 67; bits++) {
            OctagonDesk x = exactDifference(bits, 0);
            for (int i = 2; i < 6; i++) {
                x.act(0, ANY, i, 1, 2);
            }
            x.copy(3, 0);
            x.act(3, TELLING, 2, 2, 7);
            x.act(3, TELLING, 1, 0, 0);
            CHECK.due("x2 - x1 is 2^" + bits + " and 7 more, x1 is x0", x.most(3, 3, 0), 0);
            x.act(3, TELLING, 1, 4, -7);
            CHECK.due("7 less", Desks.same(x, 0, 3), false);
            x.act(3, ANY, 2, 1, 2);
            CHECK.due("and x2 as before", Desks.same(x, 0, 3), true);
            CHECK.due("without a least", x.places(0), NONE);
            x.act(0, BOUND, 0, 0, 5);
            x.act(0, BOUND, 1, 1, -3);
            CHECK.due("three values each, 3 places, times 16", x.places(0), 48);
        }
    }

    private static void anySizeBeyondLongRun() {
        CHECK.sentence("VARIABLES x0 .. x5 are whole numbers of any size");
        OctagonDesk x = exactDifference(67, 0);
        x.step(Desks.way(0, 0), TELLING, 1, 2, 0);
        CHECK.due("a run that adds nothing", x.run(0), 1);
        x.erase();
        x.step(Desks.way(0, 1), TELLING, 1, 2, 1);
        x.step(Desks.way(0, 1), TELLING, 1, 2, 0);
        CHECK.due("a run that adds one", x.run(0), 2);
        x.take(2, 1);
        CHECK.due("both are there", x.inside(0, 2), true);
        CHECK.due("bounded both ways", x.bounds(2), 2);
        x.act(2, BOUND, 1, 2, MILLION);
        CHECK.due("no less", x.isEmpty(2), true);
        x.erase();
        x.step(Desks.way(0, 0), TELLING, 1, 2, 1);
        CHECK.due("a run that goes on adding one", x.run(0), 5);
        x.take(2, 0);
        CHECK.due("one way is left", x.bounds(2), 1);
        x.take(2, 7);
        CHECK.due("a point that is not reached", x.isEmpty(2), true);
    }

    /** x0 + x1 <= c and x0 = x1 leave x0 the half of c, rounded down, on either side of 0. */
    private static void tightHalves() {
        CHECK.sentence("always as tight as the whole numbers in them let them be");
        int[] sums = {-MILLION, -MILLION + 1, -3, -2, -1, 0, 1, 2, 3, MILLION - 1, MILLION};
        for (int c : sums) {
            OctagonDesk x = new OctagonDesk();
            x.act(0, BOUND, 0, 2, c);
            x.act(0, BOUND, 0, 3, 0);
            CHECK.due("x0, x0 + x1 <= " + c + ", x0 <= x1", x.most(0, 0, 0), Math.floorDiv(c, 2));
            CHECK.due("x1", x.most(0, 2, 2), INFINITE);
            x.act(0, BOUND, 1, 2, 0);
            CHECK.due("x1, being x0", x.most(0, 2, 2), Math.floorDiv(c, 2));
            CHECK.due("and their sum", x.most(0, 0, 2), 2 * Math.floorDiv(c, 2));
            x.act(0, BOUND, 4, 4, 3);
            CHECK.due("with x2 <= 3", x.most(0, 0, 4), Math.floorDiv(c, 2) + 3);
        }
    }

    private static void tightEmptiness() {
        CHECK.sentence("A SHAPE .. is EMPTY if there is none (as whole numbers)");
        for (int c = -3; c <= 3; c++) {
            OctagonDesk x = new OctagonDesk();
            x.act(0, BOUND, 0, 2, c);
            x.act(0, BOUND, 1, 3, -c);
            x.act(1, BOUND, 0, 3, 0);
            x.act(1, BOUND, 1, 2, 0);
            boolean even = c % 2 == 0;
            CHECK.due("meet: x0 + x1 = " + c + " and x0 = x1", x.meet(2, 0, 1), even);
            x.act(0, BOUND, 0, 3, 0);
            CHECK.due("x0 + x1 = " + c + " and x0 <= x1", x.isEmpty(0), false);
            CHECK.due("act: and x1 <= x0", x.act(0, BOUND, 1, 2, 0), even);
            CHECK.due("isEmpty", x.isEmpty(0), !even);
        }
        OctagonDesk y = new OctagonDesk();
        y.act(0, BOUND, 0, 2, 1);
        y.act(0, BOUND, 0, 3, 0);
        y.act(0, BOUND, 5, 1, -1);
        y.copy(1, 0);
        CHECK.due("x0 <= 1/2, x2 <= 0 and x0 + x2 >= 1", y.act(0, BOUND, 4, 4, 0), false);
        CHECK.due("x0 <= 1/2, x2 <= 1 and x0 + x2 >= 1", y.act(1, BOUND, 4, 4, 1), true);
        CHECK.due("x0 is 0 then", y.first(1, 0), 0);
    }

    /** Each of these would leave a looser table, had the shape before not been as tight as can be. */
    private static void tightAfterEveryCall() {
        CHECK.sentence("always as tight as the whole numbers in them let them be");
        OctagonDesk x = new OctagonDesk();
        x.act(0, BOUND, 0, 2, 3);
        x.act(0, BOUND, 0, 3, 0);
        x.act(0, BOUND, 4, 1, 2);
        x.act(0, BOUND, 6, 6, 5);
        CHECK.due("x2 <= x0 + 2 and x0 <= 3/2", x.most(0, 4, 4), 3);
        CHECK.due("x2 + x3", x.most(0, 4, 6), 8);
        x.copy(1, 0);
        x.forget(1, 0);
        CHECK.due("x2, x0 forgotten", x.most(1, 4, 4), 3);
        x.copy(1, 0);
        x.act(1, ANY, 0, 9, 9);
        CHECK.due("x0 + x2, x0 being 9", x.most(1, 0, 4), 12);
        x.copy(1, 0);
        x.act(1, TELLING, 0, 1, 1);
        CHECK.due("-x0, x0 having become 1 - x0", x.most(1, 1, 1), 0);
        CHECK.due("x2 then", x.most(1, 4, 4), 3);
        x.clear(2);
        x.act(2, BOUND, 0, 0, 2);
        x.act(2, BOUND, 0, 2, 3);
        x.join(3, 0, 2);
        CHECK.due("x0 of the join", x.most(3, 0, 0), 2);
        CHECK.due("x0 + x1 of the join", x.most(3, 0, 2), 3);
        x.widen(3, 0, 2);
        CHECK.due("x0 widened, by what x0 + x1 and x0 - x1 had", x.bounds(3), 1);
    }

    private static void numberOfBound() {
        CHECK.sentence("c .. -1,000,000 .. 1,000,000 (of a BOUND)");
        OctagonDesk x = new OctagonDesk();
        for (int bad : NO_NUMBERS) {
            CHECK.badArgument("act(0, BOUND, 0, 2, " + bad + ")", () -> x.act(0, BOUND, 0, 2, bad));
            CHECK.badArgument("act(0, BOUND, 0, 0, " + bad + ")", () -> x.act(0, BOUND, 0, 0, bad));
        }
        CHECK.due("nothing is bounded", x.bounds(0), 0);
        CHECK.due("c = 1000000", x.act(0, BOUND, 0, 2, MILLION), true);
        CHECK.due("x0 + x1", x.most(0, 0, 2), MILLION);
        CHECK.due("c = -1000000", x.act(0, BOUND, 0, 3, -MILLION), true);
        CHECK.due("x0 - x1", x.most(0, 0, 3), -MILLION);
        CHECK.due("alone, c = 1000000", x.act(0, BOUND, 4, 4, MILLION), true);
        CHECK.due("x2", x.most(0, 4, 4), MILLION);
        CHECK.due("alone, c = -1000000", x.act(0, BOUND, 5, 5, -MILLION), true);
        CHECK.due("x2 is 1000000", x.first(0, 2), MILLION);
        CHECK.due("x2 is above 999999", x.act(0, BOUND, 4, 4, MILLION - 1), false);
    }

    private static void numberOfTelling() {
        CHECK.sentence("c .. -1,000,000 .. 1,000,000 (of TELLING)");
        OctagonDesk x = new OctagonDesk();
        Desks.onePlace(x, 0, 0, MILLION, -MILLION);
        for (int bad : NO_NUMBERS) {
            CHECK.badArgument("act(0, TELLING, 0, 2, " + bad + ")", () -> x.act(0, TELLING, 0, 2, bad));
        }
        CHECK.due("x0 stays", x.first(0, 0), 0);
        CHECK.due("c = 1000000", x.act(0, TELLING, 0, 2, MILLION), true);
        CHECK.due("1000000 more than 1000000", x.first(0, 0), 2L * MILLION);
        CHECK.due("c = -1000000", x.act(0, TELLING, 0, 4, -MILLION), true);
        CHECK.due("1000000 less than -1000000", x.first(0, 0), -2L * MILLION);
        CHECK.due("from 0", x.act(0, TELLING, 0, 1, MILLION), true);
        CHECK.due("1000000 more than 2000000", x.first(0, 0), 3L * MILLION);
    }

    private static void numbersOfAny() {
        CHECK.sentence("c, and of ANY b, too, are -1,000,000 .. 1,000,000");
        OctagonDesk x = new OctagonDesk();
        for (int bad : NO_NUMBERS) {
            CHECK.badArgument("act(0, ANY, 0, " + bad + ", 1000000)", () -> x.act(0, ANY, 0, bad, MILLION));
            CHECK.badArgument("act(0, ANY, 0, -1000000, " + bad + ")", () -> x.act(0, ANY, 0, -MILLION, bad));
            CHECK.badArgument("act(0, ANY, 0, " + bad + ", " + bad + ")", () -> x.act(0, ANY, 0, bad, bad));
        }
        CHECK.due("nothing is bounded", x.bounds(0), 0);
        CHECK.due("from -1000000 to 1000000", x.act(0, ANY, 0, -MILLION, MILLION), true);
        CHECK.due("greatest", x.most(0, 0, 0), MILLION);
        CHECK.due("least", x.most(0, 1, 1), MILLION);
        CHECK.due("-1000000 alone", x.act(0, ANY, 0, -MILLION, -MILLION), true);
        CHECK.due("it", x.most(0, 0, 0), -MILLION);
        CHECK.due("1000000 alone", x.act(0, ANY, 0, MILLION, MILLION), true);
        CHECK.due("it", x.most(0, 1, 1), -MILLION);
        CHECK.sentence("of ANY b, too (of a BOUND and of TELLING b is a term)");
        CHECK.due("b = 11", x.act(0, BOUND, 9, 11, 0), true);
        CHECK.due("b = 11", x.act(0, TELLING, 3, 11, 0), true);
        CHECK.badArgument("b = 12", () -> x.act(0, BOUND, 9, 12, 0));
        CHECK.badArgument("b = 12", () -> x.act(0, TELLING, 3, 12, 0));
        CHECK.badArgument("b = -1", () -> x.act(0, BOUND, 9, -1, 0));
        CHECK.badArgument("b = -1", () -> x.act(0, TELLING, 3, -1, 0));
    }

    private static void numbersOfAnyInOrder() {
        CHECK.sentence("and b not above c");
        int[] numbers = {-MILLION, -MILLION + 1, -1, 0, 1, MILLION - 1, MILLION};
        OctagonDesk x = new OctagonDesk();
        Desks.onePlace(x, 0, 5);
        for (int b : numbers) {
            for (int c : numbers) {
                String call = "act(0, ANY, 1, " + b + ", " + c + ")";
                if (b > c) {
                    CHECK.badArgument(call, () -> x.act(0, ANY, 1, b, c));
                    CHECK.badArgument("step with it", () -> x.step(0, ANY, 1, b, c));
                } else {
                    CHECK.due(call, x.act(0, ANY, 1, b, c), true);
                    CHECK.due("least of " + call, x.first(0, 1), b);
                    CHECK.due("greatest of " + call, x.most(0, 2, 2), c);
                }
            }
        }
        CHECK.badArgument("far apart", () -> x.act(0, ANY, 1, Integer.MAX_VALUE, Integer.MIN_VALUE));
        CHECK.badArgument("far apart", () -> x.act(0, ANY, 1, Integer.MIN_VALUE, Integer.MAX_VALUE));
        CHECK.due("x0 is what it was", x.first(0, 0), 5);
        CHECK.due("no step", x.erase(), 0);
    }

    private static void numbersOfSteps() {
        CHECK.sentence("Bounds of numbers (of a step's ACTION)");
        OctagonDesk x = new OctagonDesk();
        for (int bad : NO_NUMBERS) {
            CHECK.badArgument("step(1, BOUND, 0, 2, " + bad + ")", () -> x.step(1, BOUND, 0, 2, bad));
            CHECK.badArgument("step(1, TELLING, 0, 2, " + bad + ")", () -> x.step(1, TELLING, 0, 2, bad));
            CHECK.badArgument("step(1, ANY, 0, " + bad + ", 1000000)", () -> x.step(1, ANY, 0, bad, MILLION));
            CHECK.badArgument("step(1, ANY, 0, -1000000, " + bad + ")", () -> x.step(1, ANY, 0, -MILLION, bad));
        }
        CHECK.due("no step yet", x.step(Desks.way(0, 1), BOUND, 0, 2, MILLION), 0);
        CHECK.due("the second", x.step(Desks.way(1, 2), BOUND, 0, 3, -MILLION), 1);
        CHECK.due("the third", x.step(Desks.way(2, 3), TELLING, 2, 0, MILLION), 2);
        CHECK.due("the fourth", x.step(Desks.way(3, 4), TELLING, 3, 0, -MILLION), 3);
        CHECK.due("the fifth", x.step(Desks.way(4, 5), ANY, 4, -MILLION, MILLION), 4);
        CHECK.due("run", x.run(0), 2);
        CHECK.due("take", x.take(1, 5), true);
        CHECK.due("x0", x.most(1, 0, 0), 0);
        CHECK.due("x2", x.most(1, 4, 4), MILLION);
        CHECK.due("x3", x.most(1, 6, 6), -MILLION);
        CHECK.due("x2 - x3", x.most(1, 4, 7), 2L * MILLION);
        CHECK.due("x4", x.most(1, 8, 8), MILLION);
        CHECK.due("-x4", x.most(1, 9, 9), MILLION);
    }
}
