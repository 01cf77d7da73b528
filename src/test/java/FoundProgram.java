/** A program found by search, the box of variables from which it is run, and how many rounds it takes. */
final class FoundProgram {
    private static final int BOUND = Desks.BOUND;
    private static final int TELLING = Desks.TELLING;
    private static final int ANY = Desks.ANY;

    final int rounds;
    final int[][] box;
    final int[][] steps;

    private FoundProgram(int rounds, int[][] box, int[][] steps) {
        this.rounds = rounds;
        this.box = box;
        this.steps = steps;
    }

    private static int[] step(int from, int to, int kind, int a, int b, int c) {
        return new int[] {Desks.way(from, to), kind, a, b, c};
    }

    /** Point 2 changes in round 29 for the last time, the others change no more then. */
    static FoundProgram thirtyRounds() {
        return new FoundProgram(30, new int[][] {{0, 4}, {-1, 4}, {0, 3}}, new int[][] {
            step(2, 0, BOUND, 1, 5, 0),
            step(2, 0, TELLING, 1, 0, 1),
            step(1, 2, TELLING, 0, 2, -3),
            step(2, 0, TELLING, 1, 2, 1),
            step(0, 1, TELLING, 2, 1, -4),
            step(2, 0, TELLING, 0, 0, -4),
            step(0, 1, BOUND, 4, 0, 9),
            step(2, 1, TELLING, 0, 1, 1),
            step(2, 0, BOUND, 4, 2, -2),
            step(1, 2, ANY, 1, -3, 0),
            step(2, 0, TELLING, 0, 3, 3)});
    }

    /** Nothing would change in round 31 for the first time. */
    static FoundProgram thirtyOneRounds() {
        return new FoundProgram(OctagonDesk.NONE, new int[][] {{0, 3}, {0, 2}, {-3, 2}, {-2, 1}, {0, 1}}, new int[][] {
            step(2, 0, TELLING, 4, 2, -3),
            step(0, 2, TELLING, 1, 4, 1),
            step(0, 1, BOUND, 6, 9, -4),
            step(1, 0, TELLING, 1, 8, 1),
            step(1, 1, TELLING, 2, 3, 4),
            step(0, 0, TELLING, 4, 0, 0)});
    }

    /** Bounds that are dropped come back by chains of others, greater each time. */
    static FoundProgram endless() {
        return new FoundProgram(OctagonDesk.NONE, new int[][] {{-2, 0}, {-2, 1}, {-1, 3}, {-4, 0}, {0, 4}}, new int[][] {
            step(0, 0, TELLING, 4, 4, 4),
            step(0, 0, TELLING, 2, 7, -3),
            step(0, 0, BOUND, 4, 1, 5),
            step(0, 0, TELLING, 3, 9, 4),
            step(0, 0, BOUND, 4, 8, -1)});
    }

    void fill(OctagonDesk x, int slot) {
        for (int i = 0; i < box.length; i++) {
            x.act(slot, ANY, i, box[i][0], box[i][1]);
        }
    }

    void tell(OctagonDesk x) {
        for (int[] step : steps) {
            x.step(step[0], step[1], step[2], step[3], step[4]);
        }
    }
}
