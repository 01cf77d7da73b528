import java.util.StringJoiner;

/** Shapes and programs that several tests begin with. */
final class Desks {
    static final int BOUND = 0;
    static final int TELLING = 1;
    static final int ANY = 2;
    static final int WAYS_TO_EMPTY = 5;

    private Desks() {
    }

    static int way(int from, int to) {
        return 8 * from + to;
    }

    /** Leaves the slot one place: the variables without a value are 0 there. */
    static void onePlace(OctagonDesk x, int slot, int... values) {
        x.clear(slot);
        for (int i = 0; i < 6; i++) {
            int value = i < values.length ? values[i] : 0;
            x.act(slot, ANY, i, value, value);
        }
    }

    static void makeEmpty(OctagonDesk x, int slot) {
        x.act(slot, BOUND, 0, 0, 0);
        x.act(slot, BOUND, 1, 1, -1);
    }

    /** All empty shapes are the same, whatever they were made of; steps are erased by one of the ways. */
    static void makeEmpty(OctagonDesk x, int slot, int how) {
        x.clear(slot);
        switch (how) {
            case 0: makeEmpty(x, slot); break;
            case 1: bounds(x, slot, new int[][] {{0, 2, 1}, {1, 3, -1}, {0, 3, 0}, {1, 2, 0}}); break;
            case 2: bounds(x, slot, new int[][] {{0, 3, 0}, {2, 5, 0}, {4, 1, -1}}); break;
            case 3: takeUnreached(x, slot); break;
            default: x.take(slot, 7); break;
        }
    }

    private static void bounds(OctagonDesk x, int slot, int[][] bounds) {
        for (int[] bound : bounds) {
            x.act(slot, BOUND, bound[0], bound[1], bound[2]);
        }
    }

    /** Point 7 was reached by runs before the last two, but not by them. */
    private static void takeUnreached(OctagonDesk x, int slot) {
        x.erase();
        x.step(way(0, 7), ANY, 0, 3, 4);
        x.run(slot);
        x.run(slot);
        x.erase();
        x.run(slot);
        x.run(slot);
        x.take(slot, 7);
    }

    static boolean same(OctagonDesk x, int a, int b) {
        return x.inside(a, b) && x.inside(b, a);
    }

    /** x0 = 0; while x0 <= 9: x0 = x0 + 1; then x0 >= 10 at point 3. */
    static void tellCountingLoop(OctagonDesk x) {
        x.step(way(0, 1), ANY, 0, 0, 0);
        x.step(way(1, 2), BOUND, 0, 0, 9);
        x.step(way(2, 1), TELLING, 0, 0, 1);
        x.step(way(1, 3), BOUND, 1, 1, -10);
    }

    /**
     * Slot 0 of a new object: x1 - x0 is start times two to the power of doublings, and nothing else
     * is bounded. It takes 2 calls and 7 for each doubling, and slot 1.
     */
    static void makeDifference(OctagonDesk x, int start, int doublings) {
        x.act(0, BOUND, 0, 3, -start);
        x.act(0, BOUND, 1, 2, start);
        for (int i = 0; i < doublings; i++) {
            x.copy(1, 0);
            x.act(1, TELLING, 2, 2, 0);
            x.act(1, TELLING, 1, 0, 0);
            x.forget(1, 0);
            x.meet(0, 0, 1);
            x.act(0, TELLING, 1, 4, 0);
            x.forget(0, 2);
        }
    }

    static String name(int p, int q) {
        String first = (p % 2 == 0 ? "x" : "-x") + p / 2;
        return p == q ? first : first + (q % 2 == 0 ? "+x" : "-x") + q / 2;
    }

    /** All that bounds a slot's shape, such as "x0<=4, x0-x1<=2"; takes 73 calls, or one if it is empty. */
    static String text(OctagonDesk x, int slot) {
        if (x.isEmpty(slot)) {
            return "EMPTY";
        }
        StringJoiner text = new StringJoiner(", ");
        text.setEmptyValue("all");
        for (int p = 0; p < 12; p++) {
            for (int q = p; q < 12; q++) {
                long most = q == (p ^ 1) ? OctagonDesk.INFINITE : x.most(slot, p, q);
                if (most != OctagonDesk.INFINITE) {
                    text.add(name(p, q) + "<=" + most);
                }
            }
        }
        return text.toString();
    }
}
