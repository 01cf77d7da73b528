/** Promises 1 to 14, each with ordinary inputs, the edges that the document names, and wrong inputs. */
public final class ShapePromisesTest {
    private static final Check CHECK = new Check("ShapePromises");
    private static final long INFINITE = OctagonDesk.INFINITE;
    private static final int NONE = OctagonDesk.NONE;
    private static final int BOUND = 0;
    private static final int TELLING = 1;
    private static final int ANY = 2;
    private static final int[] NO_SLOTS = {-1, 6, Integer.MIN_VALUE, Integer.MAX_VALUE};
    private static final int[] NO_VARIABLES = {-1, 6, Integer.MIN_VALUE, Integer.MAX_VALUE};
    private static final int[] NO_TERMS = {-1, 12, Integer.MIN_VALUE, Integer.MAX_VALUE};
    private static final int[] NO_NUMBERS = {-1000001, 1000001, Integer.MIN_VALUE, Integer.MAX_VALUE};

    public static void main(String[] args) {
        promise1NewObject();
        promise2Bound();
        promise2Telling();
        promise2Any();
        promise2Wrong();
        promise3Clear();
        promise4Copy();
        promise5Meet();
        promise6Join();
        promise7Widen();
        promise8Forget();
        promise9IsEmpty();
        promise10Most();
        promise11Inside();
        promise12Bounds();
        promise13First();
        promise14Places();
        CHECK.finish();
    }

    /** x0 from 1 to 3, x1 from 0 to 2, x0 + x1 at most 4. */
    private static void fillSlot(OctagonDesk x, int slot) {
        x.clear(slot);
        x.act(slot, ANY, 0, 1, 3);
        x.act(slot, ANY, 1, 0, 2);
        x.act(slot, BOUND, 0, 2, 4);
    }

    private static void lookAtFilledSlot(OctagonDesk x, int slot, String when) {
        CHECK.due(when + ": most(0, 0)", x.most(slot, 0, 0), 3);
        CHECK.due(when + ": most(1, 1)", x.most(slot, 1, 1), -1);
        CHECK.due(when + ": most(2, 2)", x.most(slot, 2, 2), 2);
        CHECK.due(when + ": most(3, 3)", x.most(slot, 3, 3), 0);
        CHECK.due(when + ": most(0, 2)", x.most(slot, 0, 2), 4);
        CHECK.due(when + ": most(0, 3)", x.most(slot, 0, 3), 3);
        CHECK.due(when + ": bounds", x.bounds(slot), 8);
    }

    private static void makeEmpty(OctagonDesk x, int slot) {
        x.act(slot, BOUND, 0, 0, 0);
        x.act(slot, BOUND, 1, 1, -1);
    }

    private static void promise1NewObject() {
        OctagonDesk x = new OctagonDesk();
        for (int slot = 0; slot < 6; slot++) {
            CHECK.due("1: isEmpty(" + slot + ")", x.isEmpty(slot), false);
            CHECK.due("1: bounds(" + slot + ")", x.bounds(slot), 0);
        }
        CHECK.due("1: erase", x.erase(), 0);
        for (int point = 0; point < 8; point++) {
            CHECK.due("1: take(0, " + point + ")", x.take(0, point), false);
        }
        OctagonDesk y = new OctagonDesk();
        makeEmpty(y, 3);
        CHECK.due("1: another object is another", x.isEmpty(3), false);
    }

    private static void promise2Bound() {
        OctagonDesk x = new OctagonDesk();
        CHECK.due("2: x0 + x1 <= 7", x.act(0, BOUND, 0, 2, 7), true);
        CHECK.due("2: x0 - x1 <= 2", x.act(0, BOUND, 0, 3, 2), true);
        CHECK.due("2: half of 9 is 4", x.most(0, 0, 0), 4);
        CHECK.due("2: a weaker bound", x.act(0, BOUND, 2, 0, 9), true);
        CHECK.due("2: stays", x.most(0, 0, 2), 7);
        CHECK.due("2: x0 >= 4", x.act(0, BOUND, 1, 1, -4), true);
        CHECK.due("2: x1 is from 2 to 3", x.most(0, 2, 2), 3);
        CHECK.due("2: x1 is from 2 to 3", x.most(0, 3, 3), -2);
        CHECK.due("2: x0 >= 5", x.act(0, BOUND, 1, 1, -5), false);
        CHECK.due("2: empty stays empty", x.act(0, BOUND, 0, 0, 1000000), false);
        CHECK.due("2: other slots stay", x.bounds(1), 0);
        wholeNumbersAlone();
        CHECK.due("2: -x0 <= -1000000", x.act(2, BOUND, 1, 1, -1000000), true);
        CHECK.due("2: x0 <= 1000000", x.act(2, BOUND, 0, 0, 1000000), true);
        CHECK.due("2: x0 is 1000000", x.first(2, 0), 1000000);
    }

    /** Between 1/2 and 1/2 there is no whole number, though there is a number. */
    private static void wholeNumbersAlone() {
        OctagonDesk x = new OctagonDesk();
        x.act(0, BOUND, 0, 2, 1);
        x.act(0, BOUND, 1, 3, -1);
        x.act(0, BOUND, 0, 3, 0);
        CHECK.due("2: x0 = x1 and x0 + x1 = 1", x.act(0, BOUND, 1, 2, 0), false);
        x.act(1, BOUND, 0, 2, 0);
        x.act(1, BOUND, 0, 3, 1);
        x.act(1, BOUND, 1, 4, 0);
        CHECK.due("2: x0 <= 1/2 is x0 <= 0", x.most(1, 0, 0), 0);
        CHECK.due("2: and so x2 <= 0", x.most(1, 4, 4), 0);
        x.act(2, BOUND, 0, 2, -1);
        x.act(2, BOUND, 0, 3, 0);
        CHECK.due("2: x0 <= -1/2 is x0 <= -1", x.most(2, 0, 0), -1);
        x.act(2, BOUND, 4, 6, 3);
        x.act(2, BOUND, 4, 7, 0);
        CHECK.due("2: single bounds add up", x.most(2, 0, 4), 0);
    }

    private static void promise2Telling() {
        OctagonDesk x = new OctagonDesk();
        fillSlot(x, 0);
        CHECK.due("2: x2 becomes x0 + 5", x.act(0, TELLING, 2, 0, 5), true);
        CHECK.due("2: x2 - x0", x.most(0, 4, 1), 5);
        CHECK.due("2: x0 - x2", x.most(0, 0, 5), -5);
        CHECK.due("2: x2 + x1", x.most(0, 4, 2), 9);
        CHECK.due("2: x0 becomes x0 - 2", x.act(0, TELLING, 0, 0, -2), true);
        CHECK.due("2: x2 - x0 then", x.most(0, 4, 1), 7);
        CHECK.due("2: x0 then", x.most(0, 0, 0), 1);
        CHECK.due("2: x0 becomes 3 - x0", x.act(0, TELLING, 0, 1, 3), true);
        CHECK.due("2: x0 after that", x.most(0, 0, 0), 4);
        CHECK.due("2: -x0 after that", x.most(0, 1, 1), -2);
        CHECK.due("2: x2 + x0 after that", x.most(0, 4, 0), 10);
        CHECK.due("2: x0 becomes -x1 + 1000000", x.act(0, TELLING, 0, 3, 1000000), true);
        CHECK.due("2: x0 + x1", x.most(0, 0, 2), 1000000);
        CHECK.due("2: -x0 - x1", x.most(0, 1, 3), -1000000);
        CHECK.due("2: x0 - x1", x.most(0, 0, 3), 1000000);
        x.clear(0);
        CHECK.due("2: x0 becomes x1, all places", x.act(0, TELLING, 0, 2, -4), true);
        CHECK.due("2: two bounds", x.bounds(0), 2);
        makeEmpty(x, 1);
        CHECK.due("2: telling in an empty shape", x.act(1, TELLING, 0, 2, 0), false);
    }

    private static void promise2Any() {
        OctagonDesk x = new OctagonDesk();
        fillSlot(x, 0);
        CHECK.due("2: x0 from -7 to 9", x.act(0, ANY, 0, -7, 9), true);
        CHECK.due("2: x0", x.most(0, 0, 0), 9);
        CHECK.due("2: -x0", x.most(0, 1, 1), 7);
        CHECK.due("2: x1 has what it had", x.most(0, 2, 2), 2);
        CHECK.due("2: x0 + x1", x.most(0, 0, 2), 11);
        CHECK.due("2: x1 - x0", x.most(0, 1, 2), 9);
        CHECK.due("2: x0 + x2", x.most(0, 0, 4), INFINITE);
        CHECK.due("2: one number alone", x.act(0, ANY, 0, -1000000, -1000000), true);
        CHECK.due("2: that number", x.first(0, 0), -1000000);
        makeEmpty(x, 1);
        CHECK.due("2: any in an empty shape", x.act(1, ANY, 0, 0, 1), false);
    }

    private static void promise2Wrong() {
        OctagonDesk x = new OctagonDesk();
        fillSlot(x, 0);
        for (int bad : NO_SLOTS) {
            CHECK.badArgument("2: slot " + bad, () -> x.act(bad, BOUND, 0, 0, 0));
        }
        for (int bad : new int[] {-1, 3, Integer.MIN_VALUE, Integer.MAX_VALUE}) {
            CHECK.badArgument("2: kind " + bad, () -> x.act(0, bad, 0, 0, 0));
        }
        for (int bad : NO_TERMS) {
            CHECK.badArgument("2: term " + bad, () -> x.act(0, BOUND, bad, 0, 0));
            CHECK.badArgument("2: term " + bad, () -> x.act(0, BOUND, 0, bad, 0));
            CHECK.badArgument("2: told term " + bad, () -> x.act(0, TELLING, 0, bad, 0));
        }
        for (int bad : NO_VARIABLES) {
            CHECK.badArgument("2: variable " + bad, () -> x.act(0, TELLING, bad, 0, 0));
            CHECK.badArgument("2: variable " + bad, () -> x.act(0, ANY, bad, 0, 0));
        }
        for (int bad : NO_NUMBERS) {
            CHECK.badArgument("2: bound of " + bad, () -> x.act(0, BOUND, 0, 0, bad));
            CHECK.badArgument("2: more by " + bad, () -> x.act(0, TELLING, 0, 0, bad));
            CHECK.badArgument("2: any from " + bad, () -> x.act(0, ANY, 0, bad, 1000000));
            CHECK.badArgument("2: any to " + bad, () -> x.act(0, ANY, 0, -1000000, bad));
        }
        CHECK.badArgument("2: x0 - x0", () -> x.act(0, BOUND, 0, 1, 5));
        CHECK.badArgument("2: -x5 + x5", () -> x.act(0, BOUND, 11, 10, 5));
        CHECK.badArgument("2: from 3 to 2", () -> x.act(0, ANY, 0, 3, 2));
        lookAtFilledSlot(x, 0, "2: after wrong calls");
    }

    private static void promise3Clear() {
        OctagonDesk x = new OctagonDesk();
        fillSlot(x, 0);
        fillSlot(x, 1);
        for (int bad : NO_SLOTS) {
            CHECK.badArgument("3: slot " + bad, () -> x.clear(bad));
        }
        x.clear(0);
        CHECK.due("3: cleared", x.bounds(0), 0);
        CHECK.due("3: most", x.most(0, 0, 2), INFINITE);
        lookAtFilledSlot(x, 1, "3: the other slot");
        makeEmpty(x, 2);
        x.clear(2);
        CHECK.due("3: no longer empty", x.isEmpty(2), false);
        CHECK.due("3: bounds", x.bounds(2), 0);
    }

    private static void promise4Copy() {
        OctagonDesk x = new OctagonDesk();
        fillSlot(x, 0);
        x.copy(5, 0);
        lookAtFilledSlot(x, 5, "4: the copy");
        x.act(5, BOUND, 0, 0, 1);
        lookAtFilledSlot(x, 0, "4: a change of the copy");
        x.copy(0, 0);
        lookAtFilledSlot(x, 0, "4: copied to itself");
        for (int bad : NO_SLOTS) {
            CHECK.badArgument("4: to " + bad, () -> x.copy(bad, 1));
            CHECK.badArgument("4: from " + bad, () -> x.copy(0, bad));
        }
        lookAtFilledSlot(x, 0, "4: after wrong calls");
        makeEmpty(x, 1);
        x.copy(0, 1);
        CHECK.due("4: an empty one", x.isEmpty(0), true);
    }

    private static void promise5Meet() {
        OctagonDesk x = new OctagonDesk();
        x.act(0, BOUND, 0, 2, 7);
        x.act(1, BOUND, 0, 3, 2);
        CHECK.due("5: meet", x.meet(2, 0, 1), true);
        CHECK.due("5: tight", x.most(2, 0, 0), 4);
        CHECK.due("5: a stays", x.bounds(0), 1);
        CHECK.due("5: b stays", x.most(1, 0, 2), INFINITE);
        CHECK.due("5: into a", x.meet(0, 0, 1), true);
        CHECK.due("5: as before", x.inside(0, 2) && x.inside(2, 0), true);
        x.act(3, ANY, 0, 5, 6);
        CHECK.due("5: nothing in both", x.meet(3, 2, 3), false);
        CHECK.due("5: empty", x.isEmpty(3), true);
        CHECK.due("5: with an empty one", x.meet(4, 3, 0), false);
        CHECK.due("5: with an empty one", x.meet(4, 0, 3), false);
        CHECK.due("5: with itself", x.meet(5, 2, 2), true);
        CHECK.due("5: the same", x.inside(5, 2) && x.inside(2, 5), true);
        noWholePlaceInBoth();
        fillSlot(x, 0);
        for (int bad : NO_SLOTS) {
            CHECK.badArgument("5: to " + bad, () -> x.meet(bad, 1, 2));
            CHECK.badArgument("5: a " + bad, () -> x.meet(0, bad, 2));
            CHECK.badArgument("5: b " + bad, () -> x.meet(0, 1, bad));
        }
        lookAtFilledSlot(x, 0, "5: after wrong calls");
    }

    private static void noWholePlaceInBoth() {
        OctagonDesk x = new OctagonDesk();
        x.act(0, BOUND, 0, 2, 1);
        x.act(0, BOUND, 1, 3, -1);
        x.act(1, BOUND, 0, 3, 0);
        x.act(1, BOUND, 1, 2, 0);
        CHECK.due("5: x0 = x1 and x0 + x1 = 1", x.meet(2, 0, 1), false);
    }

    private static void promise6Join() {
        OctagonDesk x = new OctagonDesk();
        x.act(0, ANY, 0, 0, 3);
        x.act(0, ANY, 1, 0, 3);
        x.act(1, ANY, 0, 5, 8);
        x.act(1, ANY, 1, 5, 8);
        x.join(2, 0, 1);
        CHECK.due("6: x0", x.most(2, 0, 0), 8);
        CHECK.due("6: -x0", x.most(2, 1, 1), 0);
        CHECK.due("6: x0 - x1", x.most(2, 0, 3), 3);
        CHECK.due("6: x1 - x0", x.most(2, 1, 2), 3);
        CHECK.due("6: x0 + x1", x.most(2, 0, 2), 16);
        CHECK.due("6: x2", x.most(2, 4, 4), INFINITE);
        x.join(1, 0, 1);
        CHECK.due("6: into b", x.inside(1, 2) && x.inside(2, 1), true);
        makeEmpty(x, 3);
        x.join(4, 3, 0);
        CHECK.due("6: an empty one with another", x.inside(4, 0) && x.inside(0, 4), true);
        x.join(4, 0, 3);
        CHECK.due("6: another with an empty one", x.inside(4, 0) && x.inside(0, 4), true);
        x.join(4, 3, 3);
        CHECK.due("6: both empty", x.isEmpty(4), true);
        x.join(4, 0, 5);
        CHECK.due("6: with all places", x.bounds(4), 0);
        fillSlot(x, 0);
        for (int bad : NO_SLOTS) {
            CHECK.badArgument("6: to " + bad, () -> x.join(bad, 1, 2));
            CHECK.badArgument("6: a " + bad, () -> x.join(0, bad, 2));
            CHECK.badArgument("6: b " + bad, () -> x.join(0, 1, bad));
        }
        lookAtFilledSlot(x, 0, "6: after wrong calls");
    }

    private static void promise7Widen() {
        OctagonDesk x = new OctagonDesk();
        x.act(0, ANY, 0, 0, 3);
        x.act(0, ANY, 1, 0, 3);
        x.act(1, ANY, 0, 0, 9);
        x.act(1, ANY, 1, 1, 3);
        x.widen(2, 0, 1);
        CHECK.due("7: x0 grew", x.most(2, 0, 0), INFINITE);
        CHECK.due("7: -x0 did not", x.most(2, 1, 1), 0);
        CHECK.due("7: x1 did not", x.most(2, 2, 2), 3);
        CHECK.due("7: -x1 became less", x.most(2, 3, 3), 0);
        CHECK.due("7: x0 + x1 grew", x.most(2, 0, 2), INFINITE);
        CHECK.due("7: x0 - x1 grew", x.most(2, 0, 3), INFINITE);
        CHECK.due("7: x1 - x0 did not", x.most(2, 1, 2), 3);
        x.widen(2, 1, 0);
        CHECK.due("7: the other way round, -x1 has the most of x0 - x1", x.most(2, 3, 3), 8);
        CHECK.due("7: x0 of that", x.most(2, 0, 0), 9);
        bringsBackByChains();
        makeEmpty(x, 3);
        x.widen(4, 3, 0);
        CHECK.due("7: a is empty", x.inside(4, 0) && x.inside(0, 4), true);
        x.widen(4, 0, 3);
        CHECK.due("7: b is empty", x.inside(4, 0) && x.inside(0, 4), true);
        x.widen(4, 3, 3);
        CHECK.due("7: both are", x.isEmpty(4), true);
        x.widen(1, 0, 1);
        CHECK.due("7: into b", x.most(1, 0, 0), INFINITE);
        fillSlot(x, 0);
        for (int bad : NO_SLOTS) {
            CHECK.badArgument("7: to " + bad, () -> x.widen(bad, 1, 2));
            CHECK.badArgument("7: a " + bad, () -> x.widen(0, bad, 2));
            CHECK.badArgument("7: b " + bad, () -> x.widen(0, 1, bad));
        }
        lookAtFilledSlot(x, 0, "7: after wrong calls");
    }

    /** x0 - x2 grew, but x0 - x1 and x1 - x2 did not, and so it still has a most. */
    private static void bringsBackByChains() {
        OctagonDesk x = new OctagonDesk();
        x.act(0, BOUND, 0, 3, 0);
        x.act(0, BOUND, 2, 5, 0);
        x.act(0, BOUND, 0, 5, -9);
        x.copy(1, 0);
        x.clear(1);
        x.act(1, BOUND, 0, 3, 0);
        x.act(1, BOUND, 2, 5, 0);
        x.act(1, BOUND, 0, 5, -8);
        x.widen(2, 0, 1);
        CHECK.due("7: x0 - x2 by a chain", x.most(2, 0, 5), 0);
        CHECK.due("7: three bounds", x.bounds(2), 3);
    }

    private static void promise8Forget() {
        OctagonDesk x = new OctagonDesk();
        x.act(0, BOUND, 0, 3, 2);
        x.act(0, BOUND, 2, 5, 3);
        x.forget(0, 1);
        CHECK.due("8: what x1 said of the others stays", x.most(0, 0, 5), 5);
        CHECK.due("8: x0 - x1", x.most(0, 0, 3), INFINITE);
        CHECK.due("8: one bound", x.bounds(0), 1);
        x.forget(0, 5);
        CHECK.due("8: a free variable", x.bounds(0), 1);
        x.act(1, BOUND, 0, 2, 0);
        x.act(1, BOUND, 0, 3, 1);
        x.forget(1, 1);
        CHECK.due("8: tight before", x.most(1, 0, 0), 0);
        makeEmpty(x, 2);
        x.forget(2, 0);
        CHECK.due("8: empty stays empty", x.isEmpty(2), true);
        fillSlot(x, 3);
        for (int bad : NO_SLOTS) {
            CHECK.badArgument("8: slot " + bad, () -> x.forget(bad, 0));
        }
        for (int bad : NO_VARIABLES) {
            CHECK.badArgument("8: variable " + bad, () -> x.forget(3, bad));
        }
        lookAtFilledSlot(x, 3, "8: after wrong calls");
    }

    private static void promise9IsEmpty() {
        OctagonDesk x = new OctagonDesk();
        CHECK.due("9: all places", x.isEmpty(5), false);
        makeEmpty(x, 5);
        CHECK.due("9: none", x.isEmpty(5), true);
        CHECK.due("9: another", x.isEmpty(4), false);
        for (int bad : NO_SLOTS) {
            CHECK.badArgument("9: slot " + bad, () -> x.isEmpty(bad));
        }
    }

    private static void promise10Most() {
        OctagonDesk x = new OctagonDesk();
        fillSlot(x, 0);
        lookAtFilledSlot(x, 0, "10");
        CHECK.due("10: either way round", x.most(0, 2, 0), 4);
        CHECK.due("10: x5", x.most(0, 10, 10), INFINITE);
        CHECK.due("10: x0 + x5", x.most(0, 0, 10), INFINITE);
        x.act(1, ANY, 0, -1000000, 1000000);
        x.act(1, ANY, 1, 1000000, 1000000);
        CHECK.due("10: greatest sum", x.most(1, 0, 2), 2000000);
        CHECK.due("10: least sum", x.most(1, 1, 3), 0);
        makeEmpty(x, 2);
        CHECK.badState("10: empty", () -> x.most(2, 0, 0));
        for (int bad : NO_SLOTS) {
            CHECK.badArgument("10: slot " + bad, () -> x.most(bad, 0, 0));
        }
        for (int slot = 0; slot <= 2; slot += 2) {
            int at = slot;
            for (int bad : NO_TERMS) {
                CHECK.badArgument("10: p " + bad, () -> x.most(at, bad, 0));
                CHECK.badArgument("10: q " + bad, () -> x.most(at, 0, bad));
            }
            CHECK.badArgument("10: x3 - x3", () -> x.most(at, 6, 7));
            CHECK.badArgument("10: -x3 + x3", () -> x.most(at, 7, 6));
        }
    }

    private static void promise11Inside() {
        OctagonDesk x = new OctagonDesk();
        fillSlot(x, 0);
        fillSlot(x, 1);
        CHECK.due("11: itself", x.inside(0, 0), true);
        CHECK.due("11: the same", x.inside(0, 1), true);
        CHECK.due("11: all places", x.inside(0, 2), true);
        CHECK.due("11: not all places", x.inside(2, 0), false);
        x.act(1, BOUND, 0, 3, 2);
        CHECK.due("11: a bound more", x.inside(1, 0), true);
        CHECK.due("11: a bound less", x.inside(0, 1), false);
        makeEmpty(x, 3);
        makeEmpty(x, 4);
        CHECK.due("11: empty", x.inside(3, 0), true);
        CHECK.due("11: in an empty one", x.inside(0, 3), false);
        CHECK.due("11: both empty", x.inside(3, 4), true);
        for (int bad : NO_SLOTS) {
            CHECK.badArgument("11: a " + bad, () -> x.inside(bad, 0));
            CHECK.badArgument("11: b " + bad, () -> x.inside(0, bad));
        }
    }

    private static void promise12Bounds() {
        OctagonDesk x = new OctagonDesk();
        x.act(0, BOUND, 0, 0, 5);
        CHECK.due("12: a term with itself", x.bounds(0), 1);
        x.act(0, BOUND, 2, 2, 5);
        CHECK.due("12: and the sum of two", x.bounds(0), 3);
        x.act(0, BOUND, 9, 5, 5);
        CHECK.due("12: a pair counts once", x.bounds(0), 4);
        for (int i = 0; i < 6; i++) {
            x.act(1, ANY, i, 0, i);
        }
        CHECK.due("12: all pairs", x.bounds(1), 72);
        makeEmpty(x, 2);
        CHECK.due("12: empty", x.bounds(2), NONE);
        for (int bad : NO_SLOTS) {
            CHECK.badArgument("12: slot " + bad, () -> x.bounds(bad));
        }
    }

    private static void lookAtFirst(OctagonDesk x, int slot, String what, long... due) {
        for (int i = 0; i < due.length; i++) {
            CHECK.due("13: " + what + ", x" + i, x.first(slot, i), due[i]);
        }
    }

    private static void promise13First() {
        OctagonDesk x = new OctagonDesk();
        lookAtFirst(x, 0, "all places", 0, 0, 0, 0, 0, 0);
        fillSlot(x, 0);
        x.act(0, BOUND, 1, 3, -3);
        lookAtFirst(x, 0, "least", 1, 2, 0, 0, 0, 0);
        x.act(1, BOUND, 0, 0, 8);
        x.act(1, BOUND, 1, 2, -3);
        lookAtFirst(x, 1, "greatest", 8, 5, 0, 0, 0, 0);
        x.act(2, BOUND, 0, 2, 7);
        x.act(2, BOUND, 1, 3, -7);
        x.act(2, BOUND, 3, 4, -2);
        x.act(2, BOUND, 7, 0, -3);
        lookAtFirst(x, 2, "by what 0 leaves", 0, 7, 5, 3, 0, 0);
        x.act(3, BOUND, 0, 2, 1);
        x.act(3, BOUND, 1, 3, -1);
        x.act(3, BOUND, 2, 5, 0);
        x.act(3, BOUND, 3, 4, 0);
        x.act(3, BOUND, 5, 5, -1000000);
        lookAtFirst(x, 3, "a least one behind", -999999, 1000000, 1000000, 0, 0, 0);
        CHECK.due("13: the shape stays", x.most(3, 0, 0), -999999);
        makeEmpty(x, 4);
        CHECK.badState("13: empty", () -> x.first(4, 0));
        for (int bad : NO_SLOTS) {
            CHECK.badArgument("13: slot " + bad, () -> x.first(bad, 0));
        }
        for (int bad : NO_VARIABLES) {
            CHECK.badArgument("13: variable " + bad, () -> x.first(0, bad));
            CHECK.badArgument("13: variable " + bad + ", empty", () -> x.first(4, bad));
        }
    }

    private static void promise14Places() {
        OctagonDesk x = new OctagonDesk();
        CHECK.due("14: all places", x.places(0), NONE);
        for (int i = 0; i < 5; i++) {
            x.act(0, ANY, i, -i, 3 - i);
        }
        CHECK.due("14: one variable without a least", x.places(0), NONE);
        x.act(0, BOUND, 10, 10, 3);
        CHECK.due("14: one variable without a greatest", x.places(0), NONE);
        x.act(0, BOUND, 11, 11, 0);
        CHECK.due("14: a box of 4096", x.places(0), 4096);
        x.act(1, ANY, 5, 0, 4095);
        for (int i = 0; i < 5; i++) {
            x.act(1, ANY, i, 1000000, 1000000);
        }
        CHECK.due("14: 4096 in one variable", x.places(1), 4096);
        x.act(1, ANY, 5, 0, 4096);
        CHECK.due("14: 4097 in one variable", x.places(1), NONE);
        x.act(1, TELLING, 4, 10, 0);
        CHECK.due("14: two times 4097, but few places", x.places(1), NONE);
        x.act(1, ANY, 5, -32, 31);
        x.act(1, TELLING, 4, 10, 0);
        CHECK.due("14: 64 times 64, 64 places", x.places(1), 64);
        x.act(1, ANY, 3, 0, 1);
        CHECK.due("14: the box alone counts", x.places(1), NONE);
        x.act(0, BOUND, 0, 2, 2);
        CHECK.due("14: a corner less", x.places(0), 10 * 256);
        CHECK.due("14: the shape stays", x.most(0, 0, 2), 2);
        for (int i = 0; i < 6; i++) {
            x.act(2, ANY, i, 7, 7);
        }
        CHECK.due("14: one place", x.places(2), 1);
        makeEmpty(x, 3);
        CHECK.due("14: empty", x.places(3), 0);
        for (int bad : NO_SLOTS) {
            CHECK.badArgument("14: slot " + bad, () -> x.places(bad));
        }
    }
}
