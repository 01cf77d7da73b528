/** The sentences of 'Terms' and of promises 1 to 12 that name a boundary case, each on both its sides. */
public final class ShapeBoundariesTest {
    private static final Check CHECK = new Check("ShapeBoundaries");
    private static final long INFINITE = OctagonDesk.INFINITE;
    private static final int NONE = OctagonDesk.NONE;
    private static final int BOUND = Desks.BOUND;
    private static final int TELLING = Desks.TELLING;
    private static final int ANY = Desks.ANY;

    public static void main(String[] args) {
        newObject();
        slotsFirstAndLast();
        termsFirstAndLast();
        boundAtMost();
        boundAlone();
        notEachOthersNegation();
        emptyAndNearlyEmpty();
        actAnswersWhetherItHasAPlace();
        emptyStaysEmpty();
        tellingAsItWas();
        tellingAllOthersStaying();
        anyFromTo();
        anyAllOthersStaying();
        clearEverything();
        copyIsApart();
        meetWhetherThereIsOne();
        meetWithEmpty();
        joinOfBoth();
        joinWithEmpty();
        wideningNotGreater();
        wideningWithEmpty();
        wideningIntoItsOwnSlots();
        forgetAloneOrNotAtAll();
        mostInfiniteWithoutOne();
        mostTheSame();
        mostOfEmpty();
        insideEachPlace();
        insideWithEmpty();
        boundsCounted();
        boundsOfEmpty();
        CHECK.finish();
    }

    private static void newObject() {
        CHECK.sentence("All slots have all places; no steps, nothing run");
        OctagonDesk x = new OctagonDesk();
        for (int slot = 0; slot < 6; slot++) {
            CHECK.due("isEmpty(" + slot + ")", x.isEmpty(slot), false);
            CHECK.due("bounds(" + slot + ")", x.bounds(slot), 0);
            CHECK.due("places(" + slot + ")", x.places(slot), NONE);
        }
        CHECK.due("erase()", x.erase(), 0);
        for (int point = 0; point < 8; point++) {
            CHECK.due("take(0, " + point + ")", x.take(0, point), false);
            CHECK.due("isEmpty(0)", x.isEmpty(0), true);
        }
        OctagonDesk y = new OctagonDesk();
        CHECK.due("another object has its own slots", y.isEmpty(0), false);
    }

    private static void slotsFirstAndLast() {
        CHECK.sentence("SLOTS 0 .. 5 each have one");
        OctagonDesk x = new OctagonDesk();
        for (int slot = 0; slot < 6; slot++) {
            CHECK.due("act(" + slot + ")", x.act(slot, ANY, 0, slot, slot), true);
        }
        for (int slot = 0; slot < 6; slot++) {
            CHECK.due("first(" + slot + ", 0)", x.first(slot, 0), slot);
        }
        for (int bad : new int[] {-1, 6}) {
            CHECK.badArgument("act(" + bad + ")", () -> x.act(bad, ANY, 0, 0, 0));
        }
    }

    private static void termsFirstAndLast() {
        CHECK.sentence("TERMS: 2 i is xi, 2 i + 1 is - xi");
        OctagonDesk x = new OctagonDesk();
        for (int i = 0; i < 6; i++) {
            x.act(0, ANY, i, i - 20, i);
        }
        for (int i = 0; i < 6; i++) {
            CHECK.due("most(0, " + 2 * i + ", same)", x.most(0, 2 * i, 2 * i), i);
            CHECK.due("most(0, " + (2 * i + 1) + ", same)", x.most(0, 2 * i + 1, 2 * i + 1), 20 - i);
            CHECK.due("first(0, " + i + ")", x.first(0, i), i - 20);
        }
        CHECK.due("x0 - x5", x.most(0, 0, 11), 15);
        CHECK.due("x5 - x0", x.most(0, 10, 1), 25);
        CHECK.badArgument("most(0, -1, 0)", () -> x.most(0, -1, 0));
        CHECK.badArgument("most(0, 12, 0)", () -> x.most(0, 12, 0));
        CHECK.badArgument("most(0, 12, 12)", () -> x.most(0, 12, 12));
        CHECK.badArgument("most(0, -1, -1)", () -> x.most(0, -1, -1));
    }

    private static void boundAtMost() {
        CHECK.sentence("A BOUND (p, q, c) .. says that p + q is at most c");
        int[] values = {7, -4};
        for (int p = 0; p < 4; p++) {
            for (int q = 0; q < 4; q++) {
                if (p / 2 == q / 2) {
                    continue;
                }
                int sum = (p % 2 == 0 ? values[p / 2] : -values[p / 2]) + (q % 2 == 0 ? values[q / 2] : -values[q / 2]);
                OctagonDesk x = new OctagonDesk();
                Desks.onePlace(x, 0, values);
                x.copy(1, 0);
                CHECK.due("bound " + p + ", " + q + ", " + sum, x.act(0, BOUND, p, q, sum), true);
                CHECK.due("leaves the place", x.places(0), 1);
                CHECK.due("bound " + p + ", " + q + ", " + (sum - 1), x.act(1, BOUND, p, q, sum - 1), false);
            }
        }
    }

    private static void boundAlone() {
        CHECK.sentence("(p, p, c) that p alone is");
        OctagonDesk x = new OctagonDesk();
        for (int value = -3; value <= 3; value++) {
            Desks.onePlace(x, 0, 0, 0, 0, 0, 0, value);
            x.copy(1, 0);
            CHECK.due("x5 = " + value + " <= " + value, x.act(0, BOUND, 10, 10, value), true);
            CHECK.due("-x5 = " + -value + " <= " + -value, x.act(0, BOUND, 11, 11, -value), true);
            CHECK.due("x5 = " + value + " <= " + (value - 1), x.act(0, BOUND, 10, 10, value - 1), false);
            CHECK.due("-x5 = " + -value + " <= " + (-value - 1), x.act(1, BOUND, 11, 11, -value - 1), false);
        }
    }

    private static void notEachOthersNegation() {
        CHECK.sentence("p and q are not each other's negation");
        for (int p = 0; p < 12; p++) {
            OctagonDesk x = new OctagonDesk();
            int term = p;
            for (int q = 0; q < 12; q++) {
                int other = q;
                if (p / 2 == q / 2 && p != q) {
                    CHECK.badArgument("act with " + p + ", " + q, () -> x.act(0, BOUND, term, other, 5));
                    CHECK.badArgument("step with " + p + ", " + q, () -> x.step(0, BOUND, term, other, 5));
                    CHECK.badArgument("most with " + p + ", " + q, () -> x.most(0, term, other));
                } else {
                    CHECK.due("act with " + p + ", " + q, x.act(0, BOUND, p, q, 5), true);
                    CHECK.due("step with " + p + ", " + q, x.step(0, BOUND, p, q, 5), q - (q > (p ^ 1) ? 1 : 0));
                    CHECK.fine("most with " + p + ", " + q, () -> x.most(0, term, other));
                }
            }
        }
        CHECK.sentence("TELLING xa the term b (which may be xa's own negation)");
        OctagonDesk y = new OctagonDesk();
        y.act(0, ANY, 3, 2, 5);
        CHECK.due("x3 becomes -x3", y.act(0, TELLING, 3, 7, 0), true);
        CHECK.due("least", y.first(0, 3), -5);
        CHECK.due("greatest", y.most(0, 6, 6), -2);
    }

    private static void emptyAndNearlyEmpty() {
        CHECK.sentence("it is EMPTY if there is none");
        OctagonDesk x = new OctagonDesk();
        x.act(0, BOUND, 0, 0, 0);
        x.copy(1, 0);
        CHECK.due("x0 <= 0 and x0 >= 0", x.act(0, BOUND, 1, 1, 0), true);
        CHECK.due("isEmpty", x.isEmpty(0), false);
        CHECK.due("x0 <= 0 and x0 >= 1", x.act(1, BOUND, 1, 1, -1), false);
        CHECK.due("isEmpty", x.isEmpty(1), true);
        x.act(2, BOUND, 0, 3, 0);
        x.act(2, BOUND, 2, 5, 0);
        x.copy(3, 2);
        CHECK.due("x0 <= x1 <= x2 <= x0", x.act(2, BOUND, 4, 1, 0), true);
        CHECK.due("isEmpty", x.isEmpty(2), false);
        CHECK.due("x0 <= x1 <= x2 <= x0 - 1", x.act(3, BOUND, 4, 1, -1), false);
        CHECK.due("isEmpty", x.isEmpty(3), true);
        Desks.onePlace(x, 4, 1, 2, 3, 4, 5, 6);
        CHECK.due("one place", x.isEmpty(4), false);
        CHECK.due("that is counted", x.places(4), 1);
        x.act(4, BOUND, 0, 10, 6);
        CHECK.due("without its place", x.isEmpty(4), true);
    }

    private static void actAnswersWhetherItHasAPlace() {
        CHECK.sentence("A SHAPE becomes what the ACTION of a kind makes of it: whether it has a PLACE then");
        OctagonDesk x = new OctagonDesk();
        CHECK.badArgument("kind -1", () -> x.act(0, -1, 0, 0, 0));
        CHECK.badArgument("kind 3", () -> x.act(0, 3, 0, 0, 0));
        CHECK.due("nothing is done", x.bounds(0), 0);
        CHECK.due("kind 0", x.act(0, 0, 0, 0, 4), true);
        CHECK.due("bounds x0", x.most(0, 0, 0), 4);
        CHECK.due("kind 1", x.act(0, 1, 1, 0, 4), true);
        CHECK.due("tells x1", x.most(0, 2, 2), 8);
        CHECK.due("kind 2", x.act(0, 2, 1, 0, 4), true);
        CHECK.due("any x1", x.most(0, 2, 2), 4);
        CHECK.due("kind 0, no place", x.act(0, 0, 3, 3, -5), false);
        CHECK.due("isEmpty", x.isEmpty(0), true);
    }

    private static void emptyStaysEmpty() {
        CHECK.sentence("its PLACES at which it holds; the PLACES that come of its PLACES (of an EMPTY one)");
        for (int how = 0; how < Desks.WAYS_TO_EMPTY; how++) {
            OctagonDesk x = new OctagonDesk();
            Desks.makeEmpty(x, 0, how);
            CHECK.due("isEmpty", x.isEmpty(0), true);
            CHECK.due("a bound", x.act(0, BOUND, 0, 0, 1000000), false);
            CHECK.due("telling", x.act(0, TELLING, 0, 2, 0), false);
            CHECK.due("telling itself", x.act(0, TELLING, 0, 0, 0), false);
            CHECK.due("any", x.act(0, ANY, 0, -1000000, 1000000), false);
            for (int i = 0; i < 6; i++) {
                CHECK.due("any of all", x.act(0, ANY, i, 0, 0), false);
            }
            CHECK.due("isEmpty", x.isEmpty(0), true);
            CHECK.due("places", x.places(0), 0);
        }
    }

    private static void tellingAsItWas() {
        CHECK.sentence("if xa becomes b (as it was) + c");
        OctagonDesk x = new OctagonDesk();
        for (int i = 0; i < 6; i++) {
            Desks.onePlace(x, 0, 1, 2, 3, 4, 5, 6);
            x.act(0, TELLING, i, 2 * i, 10);
            CHECK.due("x" + i + " becomes x" + i + " + 10", x.first(0, i), i + 11);
            x.act(0, TELLING, i, 2 * i + 1, 10);
            CHECK.due("then 10 - x" + i, x.first(0, i), -i - 1);
            x.act(0, TELLING, i, 2 * ((i + 1) % 6) + 1, -10);
            CHECK.due("then the next one's negation - 10", x.first(0, i), -(i + 1) % 6 - 11);
            CHECK.due("still one place", x.places(0), 1);
        }
        OctagonDesk y = new OctagonDesk();
        y.act(0, BOUND, 0, 3, 5);
        y.act(0, TELLING, 0, 0, 7);
        CHECK.due("x0 - x1, x0 being 7 more", y.most(0, 0, 3), 12);
        y.act(0, TELLING, 0, 1, 1);
        CHECK.due("-x0 - x1, x0 being 1 less it", y.most(0, 1, 3), 11);
        CHECK.due("x0 - x1 then", y.most(0, 0, 3), INFINITE);
        CHECK.due("no other bound", y.bounds(0), 1);
    }

    private static void tellingAllOthersStaying() {
        CHECK.sentence("all others staying");
        OctagonDesk x = new OctagonDesk();
        x.act(0, BOUND, 2, 5, 5);
        x.act(0, BOUND, 0, 3, 1);
        x.act(0, TELLING, 0, 8, 3);
        CHECK.due("x1 - x2 stays", x.most(0, 2, 5), 5);
        CHECK.due("x0 - x1 goes", x.most(0, 0, 3), INFINITE);
        CHECK.due("x0 - x4 comes", x.most(0, 0, 9), 3);
        CHECK.due("x4 - x0 comes", x.most(0, 8, 1), -3);
        CHECK.due("three bounds", x.bounds(0), 3);
    }

    private static void anyFromTo() {
        CHECK.sentence("if xa becomes any number from b to c");
        OctagonDesk x = new OctagonDesk();
        for (int i = 0; i < 6; i++) {
            x.clear(0);
            x.act(0, ANY, i, -3, 4);
            CHECK.due("least x" + i, x.first(0, i), -3);
            CHECK.due("greatest x" + i, x.most(0, 2 * i, 2 * i), 4);
            x.copy(1, 0);
            CHECK.due("-3 is one", x.act(1, BOUND, 2 * i, 2 * i, -3), true);
            CHECK.due("-4 is none", x.act(1, BOUND, 2 * i, 2 * i, -4), false);
            x.copy(1, 0);
            CHECK.due("4 is one", x.act(1, BOUND, 2 * i + 1, 2 * i + 1, -4), true);
            CHECK.due("5 is none", x.act(1, BOUND, 2 * i + 1, 2 * i + 1, -5), false);
            x.act(0, ANY, i, 9, 9);
            CHECK.due("9 alone", x.most(0, 2 * i, 2 * i) + x.most(0, 2 * i + 1, 2 * i + 1), 0);
            CHECK.due("two bounds", x.bounds(0), 2);
        }
    }

    private static void anyAllOthersStaying() {
        CHECK.sentence("ANY: the PLACES that come of them");
        OctagonDesk x = new OctagonDesk();
        x.act(0, BOUND, 2, 1, 2);
        x.act(0, BOUND, 0, 5, 3);
        x.act(0, ANY, 0, 100, 100);
        CHECK.due("x1 - x2 stays as x0 had it", x.most(0, 2, 5), 5);
        CHECK.due("x1 - x0 goes", x.most(0, 2, 1), INFINITE);
        CHECK.due("x0 and x1 - x2", x.bounds(0), 3);
    }

    private static void clearEverything() {
        CHECK.sentence("All PLACES");
        OctagonDesk x = new OctagonDesk();
        for (int slot = 0; slot < 6; slot++) {
            Desks.onePlace(x, slot, 1, 2, 3, 4, 5, 6);
        }
        x.clear(5);
        CHECK.due("a slot with one place", x.bounds(5), 0);
        CHECK.due("the others stay", x.places(4) + x.places(0), 2);
        for (int how = 0; how < Desks.WAYS_TO_EMPTY; how++) {
            Desks.makeEmpty(x, 0, how);
            x.clear(0);
            CHECK.due("an EMPTY slot", x.isEmpty(0), false);
            CHECK.due("has no bounds", x.bounds(0), 0);
            CHECK.due("both are the same", Desks.same(x, 0, 5), true);
        }
        x.clear(0);
        CHECK.due("cleared again", x.bounds(0), 0);
    }

    private static void copyIsApart() {
        CHECK.sentence("Slot to gets the SHAPE of a");
        OctagonDesk x = new OctagonDesk();
        x.act(0, ANY, 0, 1, 4);
        x.copy(5, 0);
        CHECK.due("the same", Desks.same(x, 0, 5), true);
        x.act(0, BOUND, 0, 0, 2);
        CHECK.due("the copy stays", x.most(5, 0, 0), 4);
        x.copy(5, 5);
        CHECK.due("to itself", x.most(5, 0, 0), 4);
        for (int how = 0; how < Desks.WAYS_TO_EMPTY; how++) {
            Desks.makeEmpty(x, 0, how);
            x.copy(5, 0);
            CHECK.due("an EMPTY one", x.isEmpty(5), true);
            x.copy(5, 1);
            CHECK.due("over an EMPTY one", x.bounds(5), 0);
            x.copy(0, 0);
            CHECK.due("an EMPTY one to itself", x.isEmpty(0), true);
        }
    }

    private static void meetWhetherThereIsOne() {
        CHECK.sentence("Slot to gets the PLACES that both have: whether there is one");
        OctagonDesk x = new OctagonDesk();
        x.act(0, ANY, 0, 0, 5);
        x.act(1, ANY, 0, 5, 9);
        x.act(2, ANY, 0, 6, 9);
        CHECK.due("0 .. 5 and 5 .. 9", x.meet(3, 0, 1), true);
        CHECK.due("have 5", x.first(3, 0), 5);
        CHECK.due("alone", x.most(3, 0, 0), 5);
        CHECK.due("0 .. 5 and 6 .. 9", x.meet(3, 0, 2), false);
        CHECK.due("isEmpty", x.isEmpty(3), true);
        x.clear(4);
        CHECK.due("all places and another", x.meet(5, 4, 0), true);
        CHECK.due("is the other", Desks.same(x, 5, 0), true);
        CHECK.due("to itself", x.meet(0, 0, 0), true);
        CHECK.due("the same", Desks.same(x, 5, 0), true);
        CHECK.due("into the first", x.meet(0, 0, 1), true);
        CHECK.due("5 .. 5", x.places(0) == NONE && x.most(0, 0, 0) + x.most(0, 1, 1) == 0, true);
        CHECK.due("into the second", x.meet(2, 1, 2), true);
        CHECK.due("6 .. 9", x.first(2, 0), 6);
    }

    private static void meetWithEmpty() {
        CHECK.sentence("the PLACES that both have: whether there is one (one or both of them EMPTY)");
        for (int how = 0; how < Desks.WAYS_TO_EMPTY; how++) {
            OctagonDesk x = new OctagonDesk();
            x.act(0, ANY, 0, 0, 5);
            Desks.makeEmpty(x, 3, how);
            CHECK.due("EMPTY and another", x.meet(4, 3, 0), false);
            CHECK.due("another and EMPTY", x.meet(5, 0, 3), false);
            CHECK.due("both are EMPTY then", x.isEmpty(4) && x.isEmpty(5), true);
            CHECK.due("EMPTY and all places", x.meet(4, 3, 2), false);
            CHECK.due("all places and EMPTY", x.meet(5, 2, 3), false);
            CHECK.due("both are EMPTY then", x.isEmpty(4) && x.isEmpty(5), true);
            CHECK.due("EMPTY and itself", x.meet(3, 3, 3), false);
            CHECK.due("is EMPTY", x.isEmpty(3), true);
        }
    }

    private static void joinOfBoth() {
        CHECK.sentence("THE JOIN of two SHAPES: all BOUNDS that hold at all PLACES of both");
        OctagonDesk x = new OctagonDesk();
        Desks.onePlace(x, 0, 0, 0);
        Desks.onePlace(x, 1, 3, 3);
        x.join(2, 0, 1);
        CHECK.due("places between", x.places(2), 4);
        CHECK.due("x0 - x1", x.most(2, 0, 3), 0);
        Desks.onePlace(x, 1, 3, 2);
        x.join(2, 0, 1);
        CHECK.due("places between, x0 - x1 being 0 or 1", x.places(2), 6);
        x.join(2, 0, 0);
        CHECK.due("of one with itself", Desks.same(x, 2, 0), true);
        x.join(2, 0, 5);
        CHECK.due("with all places", x.bounds(2), 0);
        x.join(0, 0, 1);
        CHECK.due("into the first", x.places(0), 6);
        x.join(1, 0, 1);
        CHECK.due("into the second", Desks.same(x, 0, 1), true);
        x.act(3, BOUND, 0, 2, 5);
        x.act(4, BOUND, 0, 3, 5);
        x.join(3, 3, 4);
        CHECK.due("without a common bound", x.bounds(3), 0);
    }

    private static void joinWithEmpty() {
        CHECK.sentence("THE JOIN of two SHAPES (one or both of them EMPTY)");
        for (int how = 0; how < Desks.WAYS_TO_EMPTY; how++) {
            OctagonDesk x = new OctagonDesk();
            Desks.makeEmpty(x, 0, how);
            Desks.onePlace(x, 1, 4, 5, 6);
            x.join(2, 0, 1);
            CHECK.due("EMPTY and another", Desks.same(x, 2, 1), true);
            x.join(2, 1, 0);
            CHECK.due("another and EMPTY", Desks.same(x, 2, 1), true);
            x.join(2, 0, 0);
            CHECK.due("EMPTY and EMPTY", x.isEmpty(2), true);
            x.join(0, 0, 1);
            CHECK.due("into the EMPTY one", Desks.same(x, 0, 1), true);
            x.join(2, 2, 5);
            CHECK.due("EMPTY and all places", x.bounds(2), 0);
        }
    }

    /** x0 - x1 and x0 at most 5 in a; in b the same numbers, one less, or one more. */
    private static void wideningNotGreater() {
        CHECK.sentence("those BOUNDS (p, q, c), c being MOST in a, in which MOST in b is not greater than c");
        for (int less = 4; less <= 6; less++) {
            OctagonDesk x = new OctagonDesk();
            x.act(0, BOUND, 0, 3, 5);
            x.act(1, BOUND, 0, 3, less);
            x.widen(2, 0, 1);
            CHECK.due("a pair at 5 by " + less, x.most(2, 0, 3), less <= 5 ? 5 : INFINITE);
            x.act(3, BOUND, 11, 11, 5);
            x.act(4, BOUND, 11, 11, less);
            x.widen(5, 3, 4);
            CHECK.due("a term alone at 5 by " + less, x.most(5, 11, 11), less <= 5 ? 5 : INFINITE);
            x.widen(5, 3, 2);
            CHECK.due("by all numbers", x.bounds(5), 0);
            x.clear(2);
            x.widen(5, 2, 3);
            CHECK.due("what a does not have", x.bounds(5), 0);
            x.widen(5, 3, 3);
            CHECK.due("by itself", x.most(5, 11, 11), 5);
        }
        chainsAddUpAgain();
    }

    private static void chainsAddUpAgain() {
        OctagonDesk x = new OctagonDesk();
        Desks.onePlace(x, 0, 0, 0);
        Desks.onePlace(x, 1, 0, 1);
        x.widen(2, 0, 1);
        CHECK.due("x1 grew", x.most(2, 2, 2), INFINITE);
        CHECK.due("x1 - x0 grew", x.most(2, 2, 1), INFINITE);
        CHECK.due("x0 did not", x.most(2, 0, 0), 0);
        CHECK.due("x0 - x1 did not", x.most(2, 0, 3), 0);
        CHECK.due("72 less the 11 with x1", x.bounds(2), 61);
        x.join(3, 0, 1);
        CHECK.due("the join is in it", x.inside(3, 2), true);
        x.clear(0);
        x.act(0, BOUND, 0, 0, 3);
        x.act(0, BOUND, 2, 2, 3);
        x.act(0, BOUND, 0, 2, 4);
        x.clear(1);
        x.act(1, BOUND, 0, 0, 3);
        x.act(1, BOUND, 2, 2, 3);
        x.act(1, BOUND, 0, 2, 5);
        x.widen(2, 0, 1);
        CHECK.due("x0 + x1 by the two alone", x.most(2, 0, 2), 6);
    }

    private static void wideningWithEmpty() {
        CHECK.sentence("b if a is EMPTY, a if b is");
        for (int how = 0; how < Desks.WAYS_TO_EMPTY; how++) {
            OctagonDesk x = new OctagonDesk();
            Desks.makeEmpty(x, 0, how);
            x.act(1, ANY, 0, 2, 7);
            x.act(1, BOUND, 2, 5, 1);
            x.widen(2, 0, 1);
            CHECK.due("a is EMPTY", Desks.same(x, 2, 1), true);
            x.widen(2, 1, 0);
            CHECK.due("b is EMPTY", Desks.same(x, 2, 1), true);
            x.widen(2, 0, 0);
            CHECK.due("both are", x.isEmpty(2), true);
        }
        OctagonDesk x = new OctagonDesk();
        x.act(1, ANY, 0, 2, 7);
        x.act(1, BOUND, 2, 5, 1);
        x.widen(3, 1, 4);
        CHECK.due("b has all places", x.bounds(3), 0);
        x.act(4, BOUND, 0, 0, 6);
        x.widen(3, 1, 4);
        CHECK.due("neither is, and b is less in part", x.most(3, 0, 0), 7);
        CHECK.due("and more in part", x.bounds(3), 1);
    }

    private static void wideningIntoItsOwnSlots() {
        CHECK.sentence("Slot to gets THE WIDENING of a by b");
        OctagonDesk x = new OctagonDesk();
        x.act(0, ANY, 0, 0, 3);
        x.act(1, ANY, 0, -1, 2);
        x.widen(2, 0, 1);
        CHECK.due("x0", x.most(2, 0, 0), 3);
        CHECK.due("-x0", x.most(2, 1, 1), INFINITE);
        CHECK.due("a stays", x.first(0, 0), 0);
        CHECK.due("b stays", x.first(1, 0), -1);
        x.copy(3, 0);
        x.widen(3, 3, 1);
        CHECK.due("into a", Desks.same(x, 3, 2), true);
        x.copy(3, 1);
        x.widen(3, 0, 3);
        CHECK.due("into b", Desks.same(x, 3, 2), true);
        x.widen(0, 0, 0);
        CHECK.due("into itself by itself", x.most(0, 0, 0) + x.most(0, 1, 1), 3);
    }

    private static void forgetAloneOrNotAtAll() {
        CHECK.sentence("xi may be anything: the PLACES that differ from one of it in xi alone, or not at all");
        OctagonDesk x = new OctagonDesk();
        for (int i = 0; i < 6; i++) {
            Desks.onePlace(x, 0, 1, 2, 3, 4, 5, 6);
            x.copy(1, 0);
            x.forget(0, i);
            CHECK.due("not at all", x.inside(1, 0), true);
            CHECK.due("x" + i, x.most(0, 2 * i, 2 * i), INFINITE);
            CHECK.due("-x" + i, x.most(0, 2 * i + 1, 2 * i + 1), INFINITE);
            CHECK.due("alone", x.bounds(0), 50);
            x.act(1, TELLING, i, 2 * i, 1000000);
            CHECK.due("in x" + i + " alone", x.inside(1, 0), true);
            int next = (i + 1) % 6;
            x.act(1, TELLING, next, 2 * next, 1);
            CHECK.due("in another one", x.inside(1, 0), false);
        }
        for (int how = 0; how < Desks.WAYS_TO_EMPTY; how++) {
            Desks.makeEmpty(x, 2, how);
            x.forget(2, 0);
            x.forget(2, 1);
            x.forget(2, 2);
            CHECK.due("of EMPTY", x.isEmpty(2), true);
        }
        x.forget(3, 5);
        CHECK.due("of all places", x.bounds(3), 0);
        CHECK.badArgument("forget(3, -1)", () -> x.forget(3, -1));
        CHECK.badArgument("forget(3, 6)", () -> x.forget(3, 6));
    }

    private static void mostInfiniteWithoutOne() {
        CHECK.sentence("INFINITE without one");
        OctagonDesk x = new OctagonDesk();
        x.act(0, BOUND, 0, 2, 1000000);
        for (int p = 0; p < 12; p++) {
            for (int q = 0; q < 12; q++) {
                if (p != (q ^ 1)) {
                    boolean bounded = p + q == 2 && p * q == 0 && p != q;
                    CHECK.due("most(0, " + p + ", " + q + ")", x.most(0, p, q), bounded ? 1000000 : INFINITE);
                }
            }
        }
        x.act(0, BOUND, 1, 1, 5);
        CHECK.due("x1 by -x0 <= 5", x.most(0, 2, 2), 1000005);
        CHECK.due("x0 still without", x.most(0, 0, 0), INFINITE);
        x.forget(0, 0);
        CHECK.due("x1 stays", x.most(0, 2, 2), 1000005);
        CHECK.due("-x0 without again", x.most(0, 1, 1), INFINITE);
    }

    private static void mostTheSame() {
        CHECK.sentence("(if they are the same: p alone)");
        OctagonDesk x = new OctagonDesk();
        Desks.onePlace(x, 0, 7, -7);
        CHECK.due("x0", x.most(0, 0, 0), 7);
        CHECK.due("-x0", x.most(0, 1, 1), -7);
        CHECK.due("x1", x.most(0, 2, 2), -7);
        CHECK.due("-x1", x.most(0, 3, 3), 7);
        CHECK.due("x0 + x1", x.most(0, 0, 2), 0);
        CHECK.due("x1 + x0", x.most(0, 2, 0), 0);
        CHECK.due("x0 - x1", x.most(0, 0, 3), 14);
        CHECK.due("-x0 + x1", x.most(0, 1, 2), -14);
    }

    private static void mostOfEmpty() {
        CHECK.sentence("MOST. IllegalArgument. IllegalState: it is EMPTY");
        OctagonDesk x = new OctagonDesk();
        Desks.onePlace(x, 0, 1);
        CHECK.due("one place", x.most(0, 0, 0), 1);
        x.act(0, BOUND, 0, 0, 0);
        CHECK.badState("its place gone", () -> x.most(0, 0, 0));
        for (int how = 0; how < Desks.WAYS_TO_EMPTY; how++) {
            Desks.makeEmpty(x, 0, how);
            CHECK.badState("no place", () -> x.most(0, 0, 0));
            CHECK.badState("no place, another pair", () -> x.most(0, 11, 9));
            CHECK.badArgument("no place, no pair", () -> x.most(0, 11, 10));
        }
        x.clear(0);
        CHECK.due("all places", x.most(0, 0, 0), INFINITE);
    }

    private static void insideEachPlace() {
        CHECK.sentence("Whether each PLACE of a is one of b");
        OctagonDesk x = new OctagonDesk();
        x.act(0, ANY, 0, 0, 4);
        for (int least = -1; least <= 1; least++) {
            for (int greatest = 3; greatest <= 5; greatest++) {
                x.act(1, ANY, 0, least, greatest);
                String box = least + " .. " + greatest;
                CHECK.due("0 .. 4 in " + box, x.inside(0, 1), least <= 0 && greatest >= 4);
                CHECK.due(box + " in 0 .. 4", x.inside(1, 0), least >= 0 && greatest <= 4);
            }
        }
        x.clear(2);
        x.act(2, BOUND, 9, 10, 3);
        x.clear(3);
        for (int c = 2; c <= 4; c++) {
            x.clear(3);
            x.act(3, BOUND, 10, 9, c);
            CHECK.due("x5 - x4 <= 3 in that <= " + c, x.inside(2, 3), c >= 3);
            CHECK.due("x5 - x4 <= " + c + " in that <= 3", x.inside(3, 2), c <= 3);
        }
        CHECK.due("in all places", x.inside(3, 4), true);
        CHECK.due("all places in it", x.inside(4, 3), false);
        CHECK.due("all places in all places", x.inside(4, 5), true);
        CHECK.due("in itself", x.inside(3, 3), true);
    }

    private static void insideWithEmpty() {
        CHECK.sentence("Whether each PLACE of a is one of b (EMPTY has none)");
        for (int how = 0; how < Desks.WAYS_TO_EMPTY; how++) {
            OctagonDesk x = new OctagonDesk();
            Desks.makeEmpty(x, 0, how);
            Desks.onePlace(x, 1, 0);
            CHECK.due("EMPTY in one place", x.inside(0, 1), true);
            CHECK.due("one place in EMPTY", x.inside(1, 0), false);
            CHECK.due("EMPTY in EMPTY", x.inside(0, 0), true);
            CHECK.due("EMPTY in all", x.inside(0, 2), true);
            CHECK.due("all in EMPTY", x.inside(2, 0), false);
            x.act(1, BOUND, 0, 0, -1);
            CHECK.due("EMPTY in another EMPTY", x.inside(0, 1) && x.inside(1, 0), true);
        }
    }

    private static void boundsCounted() {
        CHECK.sentence("How many pairs of terms (that are not each other's negation; a term with itself counts, too)");
        OctagonDesk x = new OctagonDesk();
        CHECK.due("none", x.bounds(0), 0);
        x.act(0, BOUND, 3, 8, -7);
        CHECK.due("one pair", x.bounds(0), 1);
        x.clear(0);
        x.act(0, BOUND, 11, 11, 0);
        CHECK.due("a term with itself", x.bounds(0), 1);
        int due = 0;
        x.clear(0);
        for (int i = 0; i < 6; i++) {
            x.act(0, BOUND, 2 * i, 2 * i, i);
            due += 2 * i + 1;
            CHECK.due((2 * i + 1) + " terms bounded", x.bounds(0), due);
            x.act(0, BOUND, 2 * i + 1, 2 * i + 1, i);
            due += 2 * i + 1;
            CHECK.due((2 * i + 2) + " terms bounded", x.bounds(0), due);
        }
        CHECK.due("all pairs", due, 72);
        x.forget(0, 0);
        CHECK.due("all without x0", x.bounds(0), 50);
    }

    private static void boundsOfEmpty() {
        CHECK.sentence("NONE if it is EMPTY");
        OctagonDesk x = new OctagonDesk();
        Desks.onePlace(x, 0, 3);
        CHECK.due("one place", x.bounds(0), 72);
        x.act(0, BOUND, 0, 0, 2);
        CHECK.due("no place", x.bounds(0), NONE);
        for (int how = 0; how < Desks.WAYS_TO_EMPTY; how++) {
            Desks.makeEmpty(x, 0, how);
            CHECK.due("no place", x.bounds(0), NONE);
        }
        x.clear(0);
        CHECK.due("all places", x.bounds(0), 0);
    }
}
