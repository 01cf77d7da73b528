import java.io.IOException;

/** Every sentence of promises 1 to 18 and of 'Not promised', in the document's order. */
public final class PromiseSentencesTest {
    private static final Check CHECK = new Check("PromiseSentences");
    private static final Sentences ABOUT = new Sentences(CHECK);
    private static final long INFINITE = OctagonDesk.INFINITE;
    private static final int NONE = OctagonDesk.NONE;
    private static final int BOUND = Desks.BOUND;
    private static final int TELLING = Desks.TELLING;
    private static final int ANY = Desks.ANY;
    private static final int MILLION = 1000000;
    private static final int[] NOT_BELOW_SIX = {-1, 6, Integer.MIN_VALUE, Integer.MAX_VALUE};
    private static final int[] NO_TERMS = {-1, 12, Integer.MIN_VALUE, Integer.MAX_VALUE};
    private static final String FROM_0_TO_3 = "x0<=3, -x0<=0";
    private static final String FROM_2_TO_5 = "x0<=5, -x0<=-2";

    interface SlotCall {
        void with(OctagonDesk x, int slot);
    }

    public static void main(String[] args) throws IOException {
        promise1();
        promise2();
        promise3();
        promise4();
        promise5();
        promise6();
        promise7();
        promise8();
        promise9();
        promise10();
        promise11();
        promise12();
        promise13();
        promise14();
        promise15();
        promise16();
        promise17();
        promise18();
        notPromised();
        ABOUT.lookWhetherAllWere("Promise 1: A new object", "Promise 2: act", "Promise 3: clear", "Promise 4: copy",
            "Promise 5: meet", "Promise 6: join", "Promise 7: widen", "Promise 8: forget", "Promise 9: isEmpty",
            "Promise 10: most", "Promise 11: inside", "Promise 12: bounds", "Promise 13: first", "Promise 14: places",
            "Promise 15: step", "Promise 16: erase", "Promise 17: run", "Promise 18: take", "Not promised");
        CHECK.finish();
    }

    private static int way(int from, int to) {
        return Desks.way(from, to);
    }

    /** Slot 0 has x0 from 0 to 3, slot 1 from 2 to 5, slot 2 is EMPTY, slot 3 has all places. */
    private static OctagonDesk desk() {
        OctagonDesk x = new OctagonDesk();
        x.act(0, ANY, 0, 0, 3);
        x.act(1, ANY, 0, 2, 5);
        Desks.makeEmpty(x, 2);
        return x;
    }

    private static void refusesSlots(String what, SlotCall call) {
        for (int bad : NOT_BELOW_SIX) {
            OctagonDesk x = desk();
            CHECK.badArgument(what + " " + bad, () -> call.with(x, bad));
            CHECK.due("slot 0 after " + what + " " + bad, Desks.text(x, 0), FROM_0_TO_3);
            CHECK.due("slot 1 after it", Desks.text(x, 1), FROM_2_TO_5);
            CHECK.due("slot 2 after it", x.isEmpty(2), true);
            CHECK.due("slot 5 after it", x.bounds(5), 0);
        }
        for (int good = 0; good < 6; good++) {
            int slot = good;
            OctagonDesk x = desk();
            x.clear(2);
            CHECK.fine(what + " " + good, () -> call.with(x, slot));
        }
    }

    private static void promise1() {
        ABOUT.section("Promise 1: A new object");
        ABOUT.next("All slots have all places; no steps, nothing run.");
        OctagonDesk x = new OctagonDesk();
        for (int slot = 0; slot < 6; slot++) {
            CHECK.due("slot " + slot, Desks.text(x, slot), "all");
        }
        CHECK.due("no steps", x.erase(), 0);
        OctagonDesk y = new OctagonDesk();
        for (int point = 0; point < 8; point++) {
            CHECK.due("nothing run at point " + point, y.take(point % 6, point), false);
        }
        CHECK.due("a run without steps", new OctagonDesk().run(0), 1);
    }

    private static void promise2() {
        ABOUT.section("Promise 2: act");
        ABOUT.next("A SHAPE becomes what the ACTION of a kind makes of it: whether it has a PLACE then.");
        OctagonDesk x = desk();
        CHECK.due("a bound", x.act(0, 0, 0, 0, 2), true);
        CHECK.due("slot 0", Desks.text(x, 0), "x0<=2, -x0<=0");
        CHECK.due("telling", x.act(0, 1, 1, 1, 1), true);
        CHECK.due("slot 0", Desks.text(x, 0), "x0<=2, x0+x1<=1, x0-x1<=3, -x0<=0, -x0+x1<=1, -x0-x1<=-1, x1<=1, -x1<=1");
        CHECK.due("any", x.act(0, 2, 0, 8, 9), true);
        CHECK.due("slot 0", Desks.text(x, 0), "x0<=9, x0+x1<=10, x0-x1<=10, -x0<=-8, -x0+x1<=-7, -x0-x1<=-7, x1<=1, -x1<=1");
        CHECK.due("a bound without a place", x.act(0, 0, 0, 2, 6), false);
        CHECK.due("slot 0", Desks.text(x, 0), "EMPTY");
        CHECK.due("slot 1 stays", Desks.text(x, 1), FROM_2_TO_5);
        for (int kind = 0; kind < 3; kind++) {
            CHECK.due("kind " + kind + " of EMPTY", x.act(2, kind, 0, 0, 5), false);
        }
        ABOUT.next("IllegalArgument.");
        refusesSlots("act on", (y, slot) -> y.act(slot, BOUND, 2, 2, 9));
        for (int kind = -1; kind <= 3; kind += 4) {
            int bad = kind;
            CHECK.badArgument("kind " + kind, () -> x.act(1, bad, 0, 0, 0));
        }
        for (int bad : NO_TERMS) {
            CHECK.badArgument("bound of term " + bad, () -> x.act(1, BOUND, bad, 0, 0));
            CHECK.badArgument("bound with term " + bad, () -> x.act(1, BOUND, 0, bad, 0));
            CHECK.badArgument("telling term " + bad, () -> x.act(1, TELLING, 0, bad, 0));
        }
        for (int bad : NOT_BELOW_SIX) {
            CHECK.badArgument("telling variable " + bad, () -> x.act(1, TELLING, bad, 0, 0));
            CHECK.badArgument("any of variable " + bad, () -> x.act(1, ANY, bad, 0, 0));
        }
        CHECK.badArgument("x0 - x0", () -> x.act(1, BOUND, 0, 1, 0));
        CHECK.badArgument("a great number", () -> x.act(1, BOUND, 0, 0, MILLION + 1));
        CHECK.badArgument("any from 1 to 0", () -> x.act(1, ANY, 0, 1, 0));
        CHECK.due("slot 1 stays", Desks.text(x, 1), FROM_2_TO_5);
    }

    private static void promise3() {
        ABOUT.section("Promise 3: clear");
        ABOUT.next("All PLACES.");
        OctagonDesk x = desk();
        x.clear(0);
        CHECK.due("slot 0", Desks.text(x, 0), "all");
        x.clear(2);
        CHECK.due("an EMPTY one", Desks.text(x, 2), "all");
        x.clear(3);
        CHECK.due("one with all places", Desks.text(x, 3), "all");
        CHECK.due("slot 1 stays", Desks.text(x, 1), FROM_2_TO_5);
        ABOUT.next("IllegalArgument.");
        refusesSlots("clear of", (y, slot) -> y.clear(slot));
    }

    private static void promise4() {
        ABOUT.section("Promise 4: copy");
        ABOUT.next("Slot to gets the SHAPE of a.");
        OctagonDesk x = desk();
        x.copy(4, 1);
        CHECK.due("slot 4", Desks.text(x, 4), FROM_2_TO_5);
        x.act(4, BOUND, 0, 0, 4);
        CHECK.due("slot 1 is apart", Desks.text(x, 1), FROM_2_TO_5);
        x.copy(1, 1);
        CHECK.due("onto itself", Desks.text(x, 1), FROM_2_TO_5);
        x.copy(4, 2);
        CHECK.due("EMPTY", Desks.text(x, 4), "EMPTY");
        x.copy(2, 3);
        CHECK.due("all places onto EMPTY", Desks.text(x, 2), "all");
        x.copy(1, 0);
        CHECK.due("onto another", Desks.text(x, 1), FROM_0_TO_3);
        ABOUT.next("IllegalArgument.");
        refusesSlots("copy to", (y, slot) -> y.copy(slot, 1));
        refusesSlots("copy of", (y, slot) -> y.copy(0, slot));
    }

    private static void promise5() {
        ABOUT.section("Promise 5: meet");
        ABOUT.next("Slot to gets the PLACES that both have: whether there is one.");
        String both = "x0<=3, -x0<=-2";
        for (int[] slots : new int[][] {{4, 0, 1}, {4, 1, 0}, {0, 0, 1}, {0, 1, 0}, {1, 0, 1}, {2, 0, 1}}) {
            OctagonDesk x = desk();
            CHECK.due("meet to " + slots[0], x.meet(slots[0], slots[1], slots[2]), true);
            CHECK.due("slot " + slots[0], Desks.text(x, slots[0]), both);
            CHECK.due("slot 0", Desks.text(x, 0), slots[0] == 0 ? both : FROM_0_TO_3);
            CHECK.due("slot 1", Desks.text(x, 1), slots[0] == 1 ? both : FROM_2_TO_5);
        }
        OctagonDesk x = desk();
        CHECK.due("with itself, to itself", x.meet(0, 0, 0), true);
        CHECK.due("slot 0", Desks.text(x, 0), FROM_0_TO_3);
        CHECK.due("with all places", x.meet(3, 3, 0), true);
        CHECK.due("slot 3", Desks.text(x, 3), FROM_0_TO_3);
        CHECK.due("with EMPTY", x.meet(4, 0, 2), false);
        CHECK.due("EMPTY with another", x.meet(5, 2, 0), false);
        CHECK.due("slots 4 and 5", x.isEmpty(4) && x.isEmpty(5), true);
        x.act(1, BOUND, 1, 1, -4);
        CHECK.due("0 to 3 and 4 to 5", x.meet(0, 0, 1), false);
        CHECK.due("slot 0", x.isEmpty(0), true);
        meetIsTight();
        ABOUT.next("IllegalArgument.");
        refusesSlots("meet to", (y, slot) -> y.meet(slot, 0, 1));
        refusesSlots("meet, a", (y, slot) -> y.meet(0, slot, 0));
        refusesSlots("meet, b", (y, slot) -> y.meet(0, 0, slot));
    }

    private static void meetIsTight() {
        OctagonDesk x = new OctagonDesk();
        x.act(0, BOUND, 0, 2, 4);
        x.act(0, BOUND, 4, 7, 1);
        x.act(1, BOUND, 0, 3, 1);
        x.act(1, BOUND, 1, 4, 0);
        x.meet(2, 0, 1);
        CHECK.due("x0 is at most 2, and x2 by it", Desks.text(x, 2),
            "x0<=2, x0+x1<=4, x0-x1<=1, x0+x2<=4, -x0+x2<=0, x1+x2<=4, -x1+x2<=1, x2<=2, x2-x3<=1");
    }

    private static void promise6() {
        ABOUT.section("Promise 6: join");
        ABOUT.next("Slot to gets THE JOIN.");
        String both = "x0<=5, -x0<=0";
        for (int[] slots : new int[][] {{4, 0, 1}, {4, 1, 0}, {0, 0, 1}, {0, 1, 0}, {1, 0, 1}, {2, 0, 1}}) {
            OctagonDesk x = desk();
            x.join(slots[0], slots[1], slots[2]);
            CHECK.due("join to " + slots[0], Desks.text(x, slots[0]), both);
            CHECK.due("slot 0", Desks.text(x, 0), slots[0] == 0 ? both : FROM_0_TO_3);
            CHECK.due("slot 1", Desks.text(x, 1), slots[0] == 1 ? both : FROM_2_TO_5);
        }
        OctagonDesk x = desk();
        x.join(0, 0, 0);
        CHECK.due("with itself, to itself", Desks.text(x, 0), FROM_0_TO_3);
        x.join(4, 0, 2);
        CHECK.due("with EMPTY", Desks.text(x, 4), FROM_0_TO_3);
        x.join(2, 2, 1);
        CHECK.due("EMPTY with another, to itself", Desks.text(x, 2), FROM_2_TO_5);
        x.join(4, 0, 3);
        CHECK.due("with all places", Desks.text(x, 4), "all");
        ABOUT.next("IllegalArgument.");
        refusesSlots("join to", (y, slot) -> y.join(slot, 0, 1));
        refusesSlots("join, a", (y, slot) -> y.join(0, slot, 0));
        refusesSlots("join, b", (y, slot) -> y.join(0, 0, slot));
    }

    private static void promise7() {
        ABOUT.section("Promise 7: widen");
        ABOUT.next("Slot to gets THE WIDENING of a by b.");
        for (int to : new int[] {0, 1, 2, 4}) {
            OctagonDesk x = desk();
            x.widen(to, 0, 1);
            CHECK.due("0 by 1 to " + to, Desks.text(x, to), "-x0<=0");
            CHECK.due("slot 0", Desks.text(x, 0), to == 0 ? "-x0<=0" : FROM_0_TO_3);
            CHECK.due("slot 1", Desks.text(x, 1), to == 1 ? "-x0<=0" : FROM_2_TO_5);
            OctagonDesk y = desk();
            y.widen(to, 1, 0);
            CHECK.due("1 by 0 to " + to, Desks.text(y, to), "x0<=5");
        }
        OctagonDesk x = desk();
        x.widen(0, 0, 0);
        CHECK.due("by itself, to itself", Desks.text(x, 0), FROM_0_TO_3);
        x.widen(4, 0, 2);
        CHECK.due("by EMPTY", Desks.text(x, 4), FROM_0_TO_3);
        x.widen(2, 2, 0);
        CHECK.due("EMPTY by another, to itself", Desks.text(x, 2), FROM_0_TO_3);
        x.widen(4, 0, 3);
        CHECK.due("by all places", Desks.text(x, 4), "all");
        ABOUT.next("IllegalArgument.");
        refusesSlots("widen to", (y, slot) -> y.widen(slot, 0, 1));
        refusesSlots("widen, a", (y, slot) -> y.widen(0, slot, 0));
        refusesSlots("widen, b", (y, slot) -> y.widen(0, 0, slot));
    }

    private static void promise8() {
        ABOUT.section("Promise 8: forget");
        ABOUT.next("xi may be anything: the PLACES that differ from one of it in xi alone, or not at all.");
        OctagonDesk x = desk();
        x.act(0, BOUND, 2, 1, 1);
        x.act(0, BOUND, 4, 3, 1);
        x.copy(4, 0);
        x.forget(0, 1);
        CHECK.due("x1 forgotten", Desks.text(x, 0), "x0<=3, x0+x2<=8, -x0<=0, -x0+x2<=2, x2<=5");
        CHECK.due("not at all", x.inside(4, 0), true);
        x.act(4, TELLING, 1, 2, 7);
        CHECK.due("in x1 alone", x.inside(4, 0), true);
        x.act(4, TELLING, 0, 0, 1);
        CHECK.due("in x0, too", x.inside(4, 0), false);
        x.forget(2, 0);
        CHECK.due("of EMPTY", x.isEmpty(2), true);
        x.forget(3, 5);
        CHECK.due("of all places", x.bounds(3), 0);
        x.forget(1, 0);
        CHECK.due("the one that was bounded", Desks.text(x, 1), "all");
        ABOUT.next("IllegalArgument.");
        refusesSlots("forget in", (y, slot) -> y.forget(slot, 5));
        refusesSlots("forget x", (y, variable) -> y.forget(1, variable));
    }

    private static void promise9() {
        ABOUT.section("Promise 9: isEmpty");
        ABOUT.next("IllegalArgument.");
        OctagonDesk x = desk();
        for (int slot = 0; slot < 6; slot++) {
            CHECK.due("isEmpty(" + slot + ")", x.isEmpty(slot), slot == 2);
        }
        refusesSlots("isEmpty of", (y, slot) -> y.isEmpty(slot));
    }

    private static void promise10() {
        ABOUT.section("Promise 10: most");
        ABOUT.next("MOST.");
        OctagonDesk x = desk();
        x.act(0, ANY, 5, -9, -4);
        CHECK.due("x0", x.most(0, 0, 0), 3);
        CHECK.due("-x5", x.most(0, 11, 11), 9);
        CHECK.due("x0 + x5", x.most(0, 0, 10), -1);
        CHECK.due("-x5 + x0", x.most(0, 11, 0), 12);
        CHECK.due("x0 + x1", x.most(0, 0, 2), INFINITE);
        CHECK.due("x4", x.most(0, 8, 8), INFINITE);
        ABOUT.next("IllegalArgument.");
        refusesSlots("most of", (y, slot) -> y.most(slot, 0, 0));
        for (int slot : new int[] {0, 2}) {
            for (int bad : NO_TERMS) {
                CHECK.badArgument("p " + bad, () -> x.most(slot, bad, 0));
                CHECK.badArgument("q " + bad, () -> x.most(slot, 11, bad));
            }
            for (int p = 0; p < 12; p++) {
                int term = p;
                CHECK.badArgument(p + " and its negation", () -> x.most(slot, term, term ^ 1));
            }
        }
        ABOUT.next("IllegalState: it is EMPTY.");
        for (int how = 0; how < Desks.WAYS_TO_EMPTY; how++) {
            Desks.makeEmpty(x, 2, how);
            CHECK.badState("EMPTY", () -> x.most(2, 0, 0));
            CHECK.badState("EMPTY", () -> x.most(2, 11, 0));
        }
        CHECK.fine("not EMPTY", () -> x.most(0, 0, 0));
    }

    private static void promise11() {
        ABOUT.section("Promise 11: inside");
        ABOUT.next("Whether each PLACE of a is one of b.");
        OctagonDesk x = desk();
        x.meet(4, 0, 1);
        x.join(5, 0, 1);
        boolean[][] due = {
            {true, false, false, true, false, true},
            {false, true, false, true, false, true},
            {true, true, true, true, true, true},
            {false, false, false, true, false, false},
            {true, true, false, true, true, true},
            {false, false, false, true, false, true}};
        for (int a = 0; a < 6; a++) {
            for (int b = 0; b < 6; b++) {
                CHECK.due("inside(" + a + ", " + b + ")", x.inside(a, b), due[a][b]);
            }
        }
        x.act(3, BOUND, 0, 2, 3);
        CHECK.due("x0 from 0 to 3 in x0 + x1 <= 3", x.inside(0, 3), false);
        x.act(0, BOUND, 2, 2, 0);
        CHECK.due("x1 <= 0, too", x.inside(0, 3), true);
        ABOUT.next("IllegalArgument.");
        refusesSlots("inside, a", (y, slot) -> y.inside(slot, 0));
        refusesSlots("inside, b", (y, slot) -> y.inside(0, slot));
    }

    private static void promise12() {
        ABOUT.section("Promise 12: bounds");
        ABOUT.next("How many pairs of terms (that are not each other's negation; a term with itself counts, too) have a"
            + " MOST that is not INFINITE; NONE if it is EMPTY.");
        OctagonDesk x = desk();
        CHECK.due("x0 and -x0", x.bounds(0), 2);
        x.act(0, BOUND, 2, 2, 4);
        CHECK.due("and x1, and its sums with both", x.bounds(0), 5);
        x.act(0, BOUND, 5, 9, 4);
        CHECK.due("and -x2 - x4", x.bounds(0), 6);
        x.act(3, BOUND, 0, 3, 1);
        CHECK.due("x0 - x1", x.bounds(3), 1);
        x.act(3, BOUND, 2, 5, 1);
        CHECK.due("x1 - x2, and x0 - x2 by both", x.bounds(3), 3);
        CHECK.due("EMPTY", x.bounds(2), NONE);
        Desks.onePlace(x, 4, 1, 2, 3, 4, 5, 6);
        CHECK.due("12 terms alone and 60 pairs", x.bounds(4), 72);
        for (int how = 0; how < Desks.WAYS_TO_EMPTY; how++) {
            Desks.makeEmpty(x, 4, how);
            CHECK.due("EMPTY", x.bounds(4), NONE);
        }
        ABOUT.next("IllegalArgument.");
        refusesSlots("bounds of", (y, slot) -> y.bounds(slot));
    }

    private static void lookAtFirst(OctagonDesk x, int slot, String what, long... due) {
        for (int i = 0; i < due.length; i++) {
            CHECK.due(what + ", x" + i, x.first(slot, i), due[i]);
        }
    }

    private static void promise13() {
        ABOUT.section("Promise 13: first");
        ABOUT.next("xi of the first PLACE: x0 has its least value there, if it has one, else its greatest, if it has one,"
            + " else 0; x1 likewise among the PLACES with this x0; and so on.");
        OctagonDesk x = desk();
        lookAtFirst(x, 0, "a least", 0, 0, 0, 0, 0, 0);
        lookAtFirst(x, 1, "another least", 2, 0, 0, 0, 0, 0);
        lookAtFirst(x, 3, "neither", 0, 0, 0, 0, 0, 0);
        x.act(3, BOUND, 0, 0, -7);
        lookAtFirst(x, 3, "a greatest", -7, 0, 0, 0, 0, 0);
        x.act(3, BOUND, 2, 1, -1);
        lookAtFirst(x, 3, "x1 less than x0", -7, -8, 0, 0, 0, 0);
        x.act(3, BOUND, 3, 4, 5);
        x.act(3, BOUND, 2, 5, 5);
        lookAtFirst(x, 3, "x2 no more than 5 from x1", -7, -8, -13, 0, 0, 0);
        x.act(3, BOUND, 7, 11, 20);
        lookAtFirst(x, 3, "x3 + x5 at least -20", -7, -8, -13, 0, 0, -20);
        SmallBox.fill(x, 4, 0, 5);
        x.act(4, BOUND, 1, 3, -7);
        lookAtFirst(x, 4, "x1 has its least with the least x0", 2, 5, 0, 0, 0, 0);
        ABOUT.next("IllegalArgument.");
        refusesSlots("first of", (y, slot) -> y.first(slot, 0));
        refusesSlots("first x", (y, variable) -> y.first(0, variable));
        ABOUT.next("IllegalState: it is EMPTY.");
        for (int i = 0; i < 6; i++) {
            int variable = i;
            CHECK.badState("x" + i + " of EMPTY", () -> x.first(2, variable));
        }
        CHECK.badArgument("x6 of EMPTY", () -> x.first(2, 6));
        CHECK.fine("not EMPTY", () -> x.first(1, 5));
    }

    private static void promise14() {
        ABOUT.section("Promise 14: places");
        ABOUT.next("How many PLACES; NONE if the product of how many values each variable has (from its least to its"
            + " greatest) is above 4096 or INFINITE.");
        for (int c = -9; c <= 9; c++) {
            OctagonDesk x = new OctagonDesk();
            Desks.onePlace(x, 0, 0, 0, 5, 5, 5, 5);
            x.act(0, ANY, 0, -3, 3);
            x.act(0, ANY, 1, -3, 3);
            x.act(0, BOUND, 0, 2, c);
            x.act(0, BOUND, 3, 0, 2);
            int due = SmallBox.of(-3, 3).held(0, 2, c).held(0, 3, 2).places.size();
            CHECK.due("x0 + x1 <= " + c + ", x0 - x1 <= 2", x.places(0), due);
        }
        OctagonDesk x = new OctagonDesk();
        for (int i = 0; i < 6; i++) {
            CHECK.due("x" + i + " may be anything", x.places(0), NONE);
            x.act(0, ANY, i, i, i + 3);
        }
        CHECK.due("4 values each", x.places(0), 4096);
        x.act(0, ANY, 3, 0, 4);
        CHECK.due("5 of one", x.places(0), NONE);
        x.act(0, ANY, 3, 0, 0);
        CHECK.due("1 of one", x.places(0), 1024);
        x.act(0, TELLING, 3, 0, 100);
        CHECK.due("it is x0 + 100: 4 values, but no more places", x.places(0), 1024);
        x.act(0, BOUND, 0, 0, -1);
        CHECK.due("EMPTY", x.places(0), 0);
        ABOUT.next("IllegalArgument.");
        refusesSlots("places of", (y, slot) -> y.places(slot));
    }

    private static void promise15() {
        ABOUT.section("Promise 15: step");
        ABOUT.next("A STEP more, from one POINT to another, way being 8 from + to: its number.");
        for (int from = 0; from < 8; from++) {
            for (int to = 0; to < 8; to++) {
                OctagonDesk x = desk();
                CHECK.due("the first", x.step(way(0, from), TELLING, 1, 1, 0), 0);
                CHECK.due("the second", x.step(8 * from + to, ANY, 2, 7, 7), 1);
                x.run(0);
                CHECK.due("from " + from + " to " + to, x.take(4, to) && x.most(4, 4, 4) >= 7, true);
                CHECK.due("nothing at a point beside", x.take(4, from == 1 || to == 1 ? from == 2 || to == 2 ? 3 : 2 : 1), false);
            }
        }
        ABOUT.next("IllegalArgument.");
        OctagonDesk x = desk();
        for (int bad : new int[] {-1, -8, 64, 72, Integer.MIN_VALUE, Integer.MAX_VALUE}) {
            CHECK.badArgument("way " + bad, () -> x.step(bad, ANY, 0, 0, 0));
        }
        CHECK.badArgument("kind -1", () -> x.step(0, -1, 0, 0, 0));
        CHECK.badArgument("kind 3", () -> x.step(0, 3, 0, 0, 0));
        for (int bad : NO_TERMS) {
            CHECK.badArgument("bound of term " + bad, () -> x.step(0, BOUND, bad, 0, 0));
            CHECK.badArgument("bound with term " + bad, () -> x.step(0, BOUND, 0, bad, 0));
            CHECK.badArgument("telling term " + bad, () -> x.step(0, TELLING, 0, bad, 0));
        }
        for (int bad : NOT_BELOW_SIX) {
            CHECK.badArgument("telling variable " + bad, () -> x.step(0, TELLING, bad, 0, 0));
            CHECK.badArgument("any of variable " + bad, () -> x.step(0, ANY, bad, 0, 0));
        }
        CHECK.badArgument("x0 - x0", () -> x.step(0, BOUND, 0, 1, 0));
        CHECK.badArgument("a great number", () -> x.step(0, BOUND, 0, 0, MILLION + 1));
        CHECK.badArgument("any from 1 to 0", () -> x.step(0, ANY, 0, 1, 0));
        CHECK.due("no step was told", x.erase(), 0);
        ABOUT.next("IllegalState: there are 20.");
        for (int i = 0; i < 20; i++) {
            CHECK.due("number", x.step(way(0, 1), ANY, 0, i, i), i);
        }
        CHECK.badState("one more", () -> x.step(way(0, 2), ANY, 0, 0, 0));
        CHECK.badArgument("one more that is none", () -> x.step(64, ANY, 0, 0, 0));
        x.run(0);
        CHECK.due("it was not told", x.take(4, 2), false);
        CHECK.due("20 were", x.erase(), 20);
    }

    private static void promise16() {
        ABOUT.section("Promise 16: erase");
        ABOUT.next("There are no steps: how many there were.");
        OctagonDesk x = desk();
        for (int count = 0; count <= 20; count += 4) {
            for (int i = 0; i < count; i++) {
                CHECK.due("from 0 on each time", x.step(way(0, 1), ANY, 0, i, i), i);
            }
            CHECK.due("how many", x.erase(), count);
            CHECK.due("none are left", x.erase(), 0);
        }
        x.step(way(0, 1), ANY, 0, 6, 6);
        x.run(0);
        x.erase();
        CHECK.due("what was run stays", x.take(4, 1), true);
        CHECK.due("a run without steps", x.run(0), 1);
        CHECK.due("reaches nothing", x.take(4, 1), false);
        CHECK.due("the slots stay", Desks.text(x, 0), FROM_0_TO_3);
    }

    private static void promise17() {
        ABOUT.section("Promise 17: run");
        ABOUT.next("A RUN from a slot's SHAPE: how many ROUNDS, the last one with them; NONE if it has FAILED"
            + " (and what was run before stays).");
        OctagonDesk x = desk();
        x.step(way(0, 1), BOUND, 0, 0, 2);
        CHECK.due("from slot 0", x.run(0), 2);
        x.take(4, 1);
        CHECK.due("point 1", Desks.text(x, 4), "x0<=2, -x0<=0");
        CHECK.due("from EMPTY", x.run(2), 1);
        CHECK.due("point 1", x.take(4, 1), false);
        CHECK.due("from slot 1", x.run(1), 2);
        x.step(way(1, 0), TELLING, 0, 0, -1);
        FoundProgram.endless().tell(x);
        FoundProgram.endless().fill(x, 5);
        CHECK.due("FAILED", x.run(5), NONE);
        x.take(4, 1);
        CHECK.due("point 1 of the run before", Desks.text(x, 4), "x0<=2, -x0<=-2");
        x.take(4, 0);
        CHECK.due("point 0 of it", Desks.text(x, 4), FROM_2_TO_5);
        CHECK.due("the steps stay", x.erase(), 7);
        Desks.tellCountingLoop(x);
        CHECK.due("the next run", x.run(3), 6);
        x.take(4, 3);
        CHECK.due("replaces it", Desks.text(x, 4), "-x0<=-10");
        CHECK.due("slot 0 stays", Desks.text(x, 0), FROM_0_TO_3);
        ABOUT.next("IllegalArgument.");
        refusesSlots("run from", (y, slot) -> y.run(slot));
    }

    private static void promise18() {
        ABOUT.section("Promise 18: take");
        ABOUT.next("Slot to gets the SHAPE of a POINT as the last RUN that had not FAILED left it (EMPTY without one):"
            + " whether it has a PLACE.");
        OctagonDesk x = desk();
        for (int point = 0; point < 8; point++) {
            x.clear(4);
            CHECK.due("point " + point + ", nothing run", x.take(4, point), false);
            CHECK.due("slot 4", x.isEmpty(4), true);
        }
        for (int point = 1; point < 8; point++) {
            x.step(way(0, point), ANY, 1, point, point);
        }
        x.run(0);
        x.erase();
        x.step(way(0, 1), ANY, 1, 50, 50);
        x.act(0, ANY, 0, 9, 9);
        for (int point = 1; point < 8; point++) {
            CHECK.due("point " + point, x.take(point % 6, point), true);
            CHECK.due("x1 there", x.first(point % 6, 1), point);
            CHECK.due("x0 there", x.most(point % 6, 0, 0), 3);
        }
        x.act(5, ANY, 1, 70, 70);
        x.take(4, 5);
        CHECK.due("a slot that changes leaves the point", x.first(4, 1), 5);
        ABOUT.next("IllegalArgument.");
        for (int bad : new int[] {-1, 8, Integer.MIN_VALUE, Integer.MAX_VALUE}) {
            CHECK.badArgument("point " + bad, () -> x.take(5, bad));
        }
        CHECK.due("slot 5 stays", x.first(5, 1), 70);
        refusesSlots("take to", (y, slot) -> y.take(slot, 7));
    }

    private static void notPromised() {
        ABOUT.section("Not promised");
        ABOUT.next("How the state is held inside the object is free, as are the speed of each call, the text of toString"
            + " and the behaviour of equals and hashCode.");
        OctagonDesk x = desk();
        CHECK.fine("toString", () -> x.toString());
        CHECK.fine("equals", () -> x.equals(desk()));
        CHECK.fine("hashCode", () -> x.hashCode());
        CHECK.due("they change nothing", Desks.text(x, 0), FROM_0_TO_3);
        ABOUT.next("Use of one object from several threads at once is not promised to be safe.");
        OctagonDesk[] each = {desk(), desk(), desk(), desk()};
        Thread[] threads = new Thread[each.length];
        for (int i = 0; i < each.length; i++) {
            OctagonDesk own = each[i];
            int more = i;
            threads[i] = new Thread(() -> {
                for (int call = 0; call < 400; call++) {
                    own.act(0, TELLING, 0, 0, more);
                }
            });
            threads[i].start();
        }
        for (int i = 0; i < each.length; i++) {
            CHECK.fine("thread " + i, waitFor(threads[i]));
            CHECK.due("each thread with its own object", each[i].first(0, 0), 400L * i);
        }
        ABOUT.next("Nothing is promised beyond the answers and state changes described above, and nothing about an object"
            + " after its 512th call.");
        OctagonDesk used = desk();
        for (int call = 5; call <= 600; call++) {
            Check.thrownBy(() -> used.act(0, TELLING, 0, 0, 1));
        }
        CHECK.due("an object beside one that is used up", Desks.text(desk(), 0), FROM_0_TO_3);
    }

    private static Check.Call waitFor(Thread thread) {
        return () -> {
            try {
                thread.join();
            } catch (InterruptedException e) {
                throw new IllegalStateException(e);
            }
        };
    }
}
