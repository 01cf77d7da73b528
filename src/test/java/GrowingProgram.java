/**
 * A program that is run from slot 0 and leaves there, when its point is taken, numbers some 260 binary
 * digits longer than before: a widening drops bounds in every round, and chains of the others bring
 * them back twice as great, until another point is reached and gives them up.
 */
final class GrowingProgram {
    static final int ROUNDS = 30;

    final String name;
    final int point;
    final int[][] acts;
    final int[][] steps;

    private GrowingProgram(String name, int point, int[][] acts, int[][] steps) {
        this.name = name;
        this.point = point;
        this.acts = acts;
        this.steps = steps;
    }

    /** x1 is from 0 to a million at first; what is left of the last round bounds x1 alone. */
    static GrowingProgram told() {
        return new GrowingProgram("told", 5, new int[][] {{0, 2, 2, 1000000}, {0, 3, 3, 0}}, new int[][] {
            {1, 1, 3, 2, 0}, {10, 2, 1, 0, 0}, {19, 1, 4, 7, 0}, {28, 2, 5, 0, 1000}, {37, 2, 2, 0, 1000},
            {45, 1, 4, 7, 1}, {45, 1, 3, 8, -1}, {45, 1, 4, 7, 0}, {45, 1, 3, 8, 0}, {45, 1, 4, 7, 1},
            {45, 1, 3, 8, -1}, {45, 1, 4, 7, 0}, {45, 1, 3, 8, 1}, {45, 1, 5, 4, 1}, {46, 0, 11, 11, -50000},
            {53, 1, 5, 0, 0}, {45, 1, 2, 10, 1}, {55, 2, 3, 0, 0}, {61, 2, 1, 0, 1}, {53, 1, 3, 0, 0}});
    }

    /** Found by search from the one that was told. */
    static GrowingProgram[] found() {
        return new GrowingProgram[] {
            new GrowingProgram("found 6", 5, new int[][] {{2, 1, -2, 1}, {0, 2, 11, 0}}, new int[][] {
                {53, 1, 2, 11, 0}, {10, 2, 1, -1, -1}, {45, 1, 3, 8, -1}, {1, 1, 3, 3, 0}, {45, 1, 4, 7, -1},
                {45, 1, 3, 8, 1}, {45, 1, 3, 7, -2000}, {28, 2, 5, 0, 1000}, {37, 2, 2, 2, 79}, {45, 1, 5, 4, 2},
                {45, 1, 2, 10, 1000}, {45, 1, 4, 7, -1}, {45, 1, 3, 8, 0}, {45, 1, 4, 7, -9000},
                {45, 1, 3, 8, 4000}, {61, 2, 1, -2, 0}, {45, 1, 4, 7, 5000}, {19, 1, 4, 7, 1000000},
                {46, 0, 11, 11, -50000}, {55, 1, 3, 1, -2}}),
            new GrowingProgram("found 4", 6, new int[][] {{0, 5, 11, -1}, {2, 1, 1, 2}}, new int[][] {
                {45, 1, 2, 10, -490}, {45, 1, 3, 7, 2}, {54, 1, 5, 2, -2}, {45, 1, 4, 11, 738}, {28, 2, 5, -2, 0},
                {45, 1, 4, 7, 0}, {37, 2, 2, 0, 1000}, {10, 2, 1, -1000, -144}, {45, 1, 3, 8, 1},
                {45, 1, 4, 7, -1}, {45, 1, 3, 8, 260}, {45, 1, 4, 7, 564}, {45, 1, 3, 8, 6000}, {45, 1, 4, 7, -1},
                {45, 1, 3, 8, 1}, {1, 1, 3, 2, 0}, {53, 2, 1, -288, 1000000}, {45, 1, 5, 4, 1000},
                {19, 2, 4, -9000, 1}, {46, 0, 11, 11, -50000}})};
    }

    void tell(BothDesks desks) {
        for (int[] x : acts) {
            desks.call("act", 0, x[0], x[1], x[2], x[3]);
        }
        for (int[] x : steps) {
            desks.call("step", x);
        }
    }

    void tell(OctagonDesk desk) {
        for (int[] x : acts) {
            desk.act(0, x[0], x[1], x[2], x[3]);
        }
        for (int[] x : steps) {
            desk.step(x[0], x[1], x[2], x[3], x[4]);
        }
    }
}
