import java.util.ArrayList;
import java.util.List;

/**
 * "A call that throws changes nothing; where it lists more than one exception, the first one wins":
 * every sort of refused call, each on a desk of its own, whose answers are afterwards those of a desk
 * on which it was not made; and beside each the last call of its sort that is not refused.
 */
public final class RefusedCallsTest {
    private static final Check CHECK = new Check("RefusedCalls");
    private static final int BOUND = Desks.BOUND;
    private static final int TELLING = Desks.TELLING;
    private static final int ANY = Desks.ANY;
    private static final String ARGUMENT = "IllegalArgumentException";
    private static final String STATE = "IllegalStateException";
    private static final int EMPTY_SLOT = 2;
    private static final int[] NO_SLOTS = {-1, 6, Integer.MIN_VALUE, Integer.MAX_VALUE};
    private static final int[] NO_VARIABLES = {-1, 6, Integer.MIN_VALUE, Integer.MAX_VALUE};
    private static final int[] NO_TERMS = {-1, 12, Integer.MIN_VALUE, Integer.MAX_VALUE};
    private static final int[] NO_POINTS = {-1, 8, Integer.MIN_VALUE, Integer.MAX_VALUE};
    private static final int[] NO_WAYS = {-1, 64, Integer.MIN_VALUE, Integer.MAX_VALUE};
    private static final int[] NO_KINDS = {-1, 3, Integer.MIN_VALUE, Integer.MAX_VALUE};
    private static final int[] NO_NUMBERS = {-1000001, 1000001, Integer.MIN_VALUE, Integer.MAX_VALUE};

    interface DeskCall {
        void on(OctagonDesk x);
    }

    private static final class Refused {
        final String name;
        final String due;
        final DeskCall call;

        Refused(String name, String due, DeskCall call) {
            this.name = name;
            this.due = due;
            this.call = call;
        }
    }

    private final List<Refused> refused = new ArrayList<>();

    public static void main(String[] args) {
        RefusedCallsTest test = new RefusedCallsTest();
        test.noSlot();
        test.noVariable();
        test.noTerm();
        test.eachOthersNegation();
        test.noNumber();
        test.noPoint();
        test.noKind();
        test.itIsEmpty();
        test.firstOneWins();
        test.lookAtAll(4);
        test.moreThanTwentySteps();
        test.lookAtAll(20);
        notRefused();
        CHECK.finish();
    }

    private void add(String name, String due, DeskCall call) {
        refused.add(new Refused(name, due, call));
    }

    private void noSlot() {
        for (int bad : NO_SLOTS) {
            add("act, slot " + bad, ARGUMENT, x -> x.act(bad, ANY, 0, 7, 7));
            add("clear, slot " + bad, ARGUMENT, x -> x.clear(bad));
            add("copy to " + bad, ARGUMENT, x -> x.copy(bad, 0));
            add("copy of " + bad, ARGUMENT, x -> x.copy(0, bad));
            add("meet to " + bad, ARGUMENT, x -> x.meet(bad, 0, 5));
            add("meet, a " + bad, ARGUMENT, x -> x.meet(0, bad, 5));
            add("meet, b " + bad, ARGUMENT, x -> x.meet(0, 5, bad));
            add("join to " + bad, ARGUMENT, x -> x.join(bad, 0, 5));
            add("join, a " + bad, ARGUMENT, x -> x.join(0, bad, 5));
            add("join, b " + bad, ARGUMENT, x -> x.join(0, 5, bad));
            add("widen to " + bad, ARGUMENT, x -> x.widen(bad, 0, 5));
            add("widen, a " + bad, ARGUMENT, x -> x.widen(0, bad, 5));
            add("widen, b " + bad, ARGUMENT, x -> x.widen(0, 5, bad));
            add("forget, slot " + bad, ARGUMENT, x -> x.forget(bad, 0));
            add("isEmpty, slot " + bad, ARGUMENT, x -> x.isEmpty(bad));
            add("most, slot " + bad, ARGUMENT, x -> x.most(bad, 0, 0));
            add("inside, a " + bad, ARGUMENT, x -> x.inside(bad, 0));
            add("inside, b " + bad, ARGUMENT, x -> x.inside(0, bad));
            add("bounds, slot " + bad, ARGUMENT, x -> x.bounds(bad));
            add("first, slot " + bad, ARGUMENT, x -> x.first(bad, 0));
            add("places, slot " + bad, ARGUMENT, x -> x.places(bad));
            add("run, slot " + bad, ARGUMENT, x -> x.run(bad));
            add("take to " + bad, ARGUMENT, x -> x.take(bad, 1));
        }
    }

    private void noVariable() {
        for (int bad : NO_VARIABLES) {
            add("act, TELLING x" + bad, ARGUMENT, x -> x.act(0, TELLING, bad, 2, 1));
            add("act, ANY x" + bad, ARGUMENT, x -> x.act(0, ANY, bad, 2, 3));
            add("step, TELLING x" + bad, ARGUMENT, x -> x.step(1, TELLING, bad, 2, 1));
            add("step, ANY x" + bad, ARGUMENT, x -> x.step(1, ANY, bad, 2, 3));
            add("forget x" + bad, ARGUMENT, x -> x.forget(0, bad));
            add("first x" + bad, ARGUMENT, x -> x.first(0, bad));
        }
    }

    private void noTerm() {
        for (int bad : NO_TERMS) {
            add("act, BOUND of " + bad, ARGUMENT, x -> x.act(0, BOUND, bad, 2, 1));
            add("act, BOUND with " + bad, ARGUMENT, x -> x.act(0, BOUND, 2, bad, 1));
            add("act, BOUND twice " + bad, ARGUMENT, x -> x.act(0, BOUND, bad, bad, 1));
            add("act, TELLING " + bad, ARGUMENT, x -> x.act(0, TELLING, 0, bad, 1));
            add("step, BOUND of " + bad, ARGUMENT, x -> x.step(1, BOUND, bad, 2, 1));
            add("step, BOUND with " + bad, ARGUMENT, x -> x.step(1, BOUND, 2, bad, 1));
            add("step, TELLING " + bad, ARGUMENT, x -> x.step(1, TELLING, 0, bad, 1));
            add("most of " + bad, ARGUMENT, x -> x.most(0, bad, 2));
            add("most with " + bad, ARGUMENT, x -> x.most(0, 2, bad));
            add("most twice " + bad, ARGUMENT, x -> x.most(0, bad, bad));
        }
    }

    private void eachOthersNegation() {
        for (int p = 0; p < 12; p++) {
            int term = p;
            add("act, BOUND of " + p + " and its negation", ARGUMENT, x -> x.act(0, BOUND, term, term ^ 1, 1));
            add("step, BOUND of " + p + " and its negation", ARGUMENT, x -> x.step(1, BOUND, term, term ^ 1, 1));
            add("most of " + p + " and its negation", ARGUMENT, x -> x.most(0, term, term ^ 1));
        }
    }

    private void noNumber() {
        for (int bad : NO_NUMBERS) {
            add("act, BOUND by " + bad, ARGUMENT, x -> x.act(0, BOUND, 0, 2, bad));
            add("act, TELLING " + bad + " more", ARGUMENT, x -> x.act(0, TELLING, 0, 2, bad));
            add("act, ANY from " + bad, ARGUMENT, x -> x.act(0, ANY, 0, bad, 1000000));
            add("act, ANY to " + bad, ARGUMENT, x -> x.act(0, ANY, 0, -1000000, bad));
            add("act, ANY from and to " + bad, ARGUMENT, x -> x.act(0, ANY, 0, bad, bad));
            add("step, BOUND by " + bad, ARGUMENT, x -> x.step(1, BOUND, 0, 2, bad));
            add("step, TELLING " + bad + " more", ARGUMENT, x -> x.step(1, TELLING, 0, 2, bad));
            add("step, ANY from " + bad, ARGUMENT, x -> x.step(1, ANY, 0, bad, 1000000));
            add("step, ANY to " + bad, ARGUMENT, x -> x.step(1, ANY, 0, -1000000, bad));
        }
        add("act, ANY from 3 to 2", ARGUMENT, x -> x.act(0, ANY, 0, 3, 2));
        add("step, ANY from 3 to 2", ARGUMENT, x -> x.step(1, ANY, 0, 3, 2));
        add("act, ANY from 1000000 to -1000000", ARGUMENT, x -> x.act(0, ANY, 0, 1000000, -1000000));
    }

    private void noPoint() {
        for (int bad : NO_POINTS) {
            add("take of " + bad, ARGUMENT, x -> x.take(0, bad));
        }
        for (int bad : NO_WAYS) {
            add("step, way " + bad, ARGUMENT, x -> x.step(bad, ANY, 0, 2, 3));
        }
    }

    private void noKind() {
        for (int bad : NO_KINDS) {
            add("act, kind " + bad, ARGUMENT, x -> x.act(0, bad, 0, 2, 3));
            add("step, kind " + bad, ARGUMENT, x -> x.step(1, bad, 0, 2, 3));
        }
    }

    private void itIsEmpty() {
        add("most of an EMPTY slot", STATE, x -> x.most(EMPTY_SLOT, 0, 0));
        add("most of an EMPTY slot, last terms", STATE, x -> x.most(EMPTY_SLOT, 11, 11));
        add("first of an EMPTY slot", STATE, x -> x.first(EMPTY_SLOT, 0));
        add("first of an EMPTY slot, last variable", STATE, x -> x.first(EMPTY_SLOT, 5));
    }

    private void firstOneWins() {
        for (int bad : NO_TERMS) {
            add("most of an EMPTY slot, term " + bad, ARGUMENT, x -> x.most(EMPTY_SLOT, bad, 0));
            add("most of an EMPTY slot, term 0 and " + bad, ARGUMENT, x -> x.most(EMPTY_SLOT, 0, bad));
        }
        for (int bad : NO_VARIABLES) {
            add("first of an EMPTY slot, variable " + bad, ARGUMENT, x -> x.first(EMPTY_SLOT, bad));
        }
        add("most of an EMPTY slot, x0 - x0", ARGUMENT, x -> x.most(EMPTY_SLOT, 0, 1));
    }

    /** All calls before this one are made on a full program, too, and those of step still are argument's. */
    private void moreThanTwentySteps() {
        add("a 21st step, BOUND", STATE, x -> x.step(0, BOUND, 0, 0, 0));
        add("a 21st step, TELLING", STATE, x -> x.step(63, TELLING, 5, 11, 1000000));
        add("a 21st step, ANY", STATE, x -> x.step(7, ANY, 0, -1000000, 1000000));
    }

    private void lookAtAll(int steps) {
        CHECK.sentence("A call that throws changes nothing; where it lists more than one exception, the first one wins");
        String untouched = everythingOf(desk(steps));
        for (Refused one : refused) {
            OctagonDesk x = desk(steps);
            String thrown = Check.thrownBy(() -> one.call.on(x));
            CHECK.due(one.name + " with " + steps + " steps, throws", thrown, one.due);
            CHECK.due(one.name + " with " + steps + " steps, leaves", everythingOf(x), untouched);
        }
    }

    private static OctagonDesk desk(int steps) {
        OctagonDesk x = new OctagonDesk();
        x.act(0, ANY, 0, 1, 3);
        x.act(0, ANY, 1, 0, 2);
        x.act(0, BOUND, 0, 2, 4);
        x.act(0, BOUND, 4, 7, 5);
        x.act(1, BOUND, 0, 3, 2);
        x.act(1, BOUND, 2, 5, 3);
        x.act(1, BOUND, 9, 11, 100);
        Desks.makeEmpty(x, EMPTY_SLOT);
        for (int i = 0; i < 6; i++) {
            x.act(3, ANY, i, i, i + 2);
        }
        x.act(3, BOUND, 1, 3, -3);
        x.act(5, ANY, 0, 50, 60);
        Desks.tellCountingLoop(x);
        for (int i = 4; i < steps; i++) {
            x.step(Desks.way(3, 4), ANY, 1, i, i);
        }
        x.run(0);
        return x;
    }

    /** Some 450 calls, so that a desk made and changed by some 40 is used for no more than 512. */
    private static String everythingOf(OctagonDesk x) {
        StringBuilder all = new StringBuilder();
        for (int slot = 0; slot < 6; slot++) {
            all.append(" slot ").append(slot).append(' ').append(x.isEmpty(slot)).append(' ').append(x.bounds(slot));
            all.append(' ').append(x.places(slot)).append(' ').append(x.inside(slot, 3));
            if (slot == 0 || slot == 1 || slot == 3) {
                appendMosts(all, x, slot, 12);
            }
        }
        all.append(" slot 5 ").append(x.first(5, 0)).append(' ').append(x.most(5, 0, 0));
        appendPoints(all, x);
        all.append(" rounds ").append(x.run(1));
        appendPoints(all, x);
        return all.append(" steps ").append(x.erase()).toString();
    }

    private static void appendMosts(StringBuilder all, OctagonDesk x, int slot, int terms) {
        for (int p = 0; p < terms; p++) {
            for (int q = p; q < terms; q++) {
                if (q != (p ^ 1)) {
                    all.append(' ').append(x.most(slot, p, q));
                }
            }
        }
    }

    private static void appendPoints(StringBuilder all, OctagonDesk x) {
        for (int point = 0; point < 8; point++) {
            all.append(" point ").append(point).append(' ').append(x.take(5, point)).append(' ').append(x.bounds(5));
            if (!x.isEmpty(5)) {
                appendMosts(all, x, 5, 4);
            }
        }
    }

    /** The last and the first of what each of the lists above leaves. */
    private static void notRefused() {
        CHECK.sentence("IllegalArgument: there is no such slot, term, variable, point, or number (but there is)");
        for (int slot = 0; slot <= 5; slot += 5) {
            OctagonDesk x = desk(4);
            int at = slot;
            CHECK.fine("act, first", () -> x.act(at, BOUND, 0, 0, -1000000));
            CHECK.fine("act, last", () -> x.act(at, BOUND, 11, 11, 1000000));
            CHECK.fine("clear", () -> x.clear(at));
            CHECK.fine("act, TELLING, first", () -> x.act(at, TELLING, 0, 0, -1000000));
            CHECK.fine("act, TELLING, last", () -> x.act(at, TELLING, 5, 11, 1000000));
            CHECK.fine("act, ANY, first", () -> x.act(at, ANY, 0, -1000000, -1000000));
            CHECK.fine("act, ANY, last", () -> x.act(at, ANY, 5, 1000000, 1000000));
            CHECK.fine("copy", () -> x.copy(at, 5 - at));
            CHECK.fine("meet", () -> x.meet(at, 5 - at, 5 - at));
            CHECK.fine("join", () -> x.join(at, 5 - at, 5 - at));
            CHECK.fine("widen", () -> x.widen(at, 5 - at, 5 - at));
            CHECK.fine("forget, first", () -> x.forget(at, 0));
            CHECK.fine("forget, last", () -> x.forget(at, 5));
            CHECK.fine("isEmpty", () -> x.isEmpty(at));
            CHECK.fine("most, first", () -> x.most(at, 0, 0));
            CHECK.fine("most, last", () -> x.most(at, 11, 11));
            CHECK.fine("inside", () -> x.inside(at, 5 - at));
            CHECK.fine("bounds", () -> x.bounds(at));
            CHECK.fine("first, first", () -> x.first(at, 0));
            CHECK.fine("first, last", () -> x.first(at, 5));
            CHECK.fine("places", () -> x.places(at));
            CHECK.fine("step, first", () -> x.step(0, BOUND, 0, 0, -1000000));
            CHECK.fine("step, last", () -> x.step(63, ANY, 5, 1000000, 1000000));
            CHECK.fine("run", () -> x.run(at));
            CHECK.fine("take, first", () -> x.take(at, 0));
            CHECK.fine("take, last", () -> x.take(at, 7));
        }
        CHECK.sentence("(EMPTY, where the document lists no IllegalState)");
        OctagonDesk x = desk(4);
        CHECK.fine("places", () -> x.places(EMPTY_SLOT));
        CHECK.fine("bounds", () -> x.bounds(EMPTY_SLOT));
        CHECK.fine("forget", () -> x.forget(EMPTY_SLOT, 0));
        CHECK.fine("run", () -> x.run(EMPTY_SLOT));
        CHECK.fine("inside", () -> x.inside(EMPTY_SLOT, EMPTY_SLOT));
        CHECK.fine("act", () -> x.act(EMPTY_SLOT, TELLING, 0, 0, 0));
        CHECK.fine("meet", () -> x.meet(0, EMPTY_SLOT, EMPTY_SLOT));
        CHECK.fine("join", () -> x.join(0, EMPTY_SLOT, EMPTY_SLOT));
        CHECK.fine("widen", () -> x.widen(0, EMPTY_SLOT, EMPTY_SLOT));
    }
}
