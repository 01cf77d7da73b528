import java.math.BigInteger;
import java.util.Arrays;

/**
 * Shapes worked out by going through their places one by one, so that nothing that is known of octagons
 * is needed: a most is the greatest sum that is seen. Of one, two or three variables the values from
 * -WINDOW to WINDOW are looked at; each of the others is 0 or may be anything.
 *
 * Bounds are kept so small that what has a greatest sum has it far inside the window, and what has none
 * is seen to grow far beyond. A call that would lead to greater bounds throws TooGreat instead.
 */
final class SeenShape implements SomeShape<SeenShape> {
    static final class TooGreat extends RuntimeException {
        private static final long serialVersionUID = 1L;
    }

    interface Look {
        void at(int[] place);
    }

    private static final int WINDOW = 60;
    private static final int KEPT = 8;
    private static final int SURELY_ENDLESS = 30;

    private final int[] used;
    private final boolean[] zero;
    private final boolean empty;
    /** Of pairs of terms of the used variables, by their places in used; ENDLESS without a greatest. */
    private final int[][] most;
    private static final int ENDLESS = Integer.MAX_VALUE;

    private SeenShape(int[] used, boolean[] zero, int[][] most, boolean empty) {
        this.used = used;
        this.zero = zero;
        this.most = most;
        this.empty = empty;
    }

    static SeenShape allPlaces(int... used) {
        return new SeenShape(used, new boolean[6], table(used, ENDLESS), false);
    }

    static SeenShape noPlaces(int... used) {
        return new SeenShape(used, new boolean[6], table(used, ENDLESS), true);
    }

    private static int[][] table(int[] used, int value) {
        int[][] table = new int[2 * used.length][2 * used.length];
        for (int[] row : table) {
            Arrays.fill(row, value);
        }
        return table;
    }

    /** Collects the places that something is made of, and the greatest sums at them. */
    private final class Seen implements Look {
        private final int[][] greatest = table(used, Integer.MIN_VALUE);
        private boolean any;

        @Override
        public void at(int[] place) {
            any = true;
            for (int p = 0; p < greatest.length; p++) {
                for (int q = 0; q < greatest.length; q++) {
                    greatest[p][q] = Math.max(greatest[p][q], sum(place, p, q));
                }
            }
        }

        SeenShape shape(boolean[] zeroThen) {
            if (!any) {
                return noPlaces(used);
            }
            for (int[] row : greatest) {
                for (int q = 0; q < row.length; q++) {
                    row[q] = row[q] > SURELY_ENDLESS ? ENDLESS : row[q];
                }
            }
            return new SeenShape(used, zeroThen, greatest, false);
        }
    }

    private SeenShape ifSmall() {
        for (int p = 0; p < most.length; p++) {
            for (int q = 0; q < most.length; q++) {
                if (!empty && p != (q ^ 1) && most[p][q] != ENDLESS && Math.abs(most[p][q]) > KEPT) {
                    throw new TooGreat();
                }
            }
        }
        return this;
    }

    private static int value(int[] place, int term) {
        return term % 2 == 0 ? place[term / 2] : -place[term / 2];
    }

    private static int sum(int[] place, int p, int q) {
        return p == q ? value(place, p) : value(place, p) + value(place, q);
    }

    private boolean has(int[] place) {
        for (int p = 0; p < most.length && !empty; p++) {
            for (int q = p; q < most.length; q++) {
                if (p != (q ^ 1) && sum(place, p, q) > most[p][q]) {
                    return false;
                }
            }
        }
        return !empty;
    }

    /** Places that differ in the last variable alone lie between two ends, at which sums are greatest. */
    private void eachEnd(Look look) {
        if (!empty) {
            go(look, new int[used.length], 0, true);
        }
    }

    private void eachPlace(Look look) {
        if (!empty) {
            go(look, new int[used.length], 0, false);
        }
    }

    private void go(Look look, int[] place, int i, boolean endsAlone) {
        int least = -greatestOf(2 * i + 1, place);
        int greatest = greatestOf(2 * i, place);
        boolean last = i == used.length - 1;
        int apart = last && endsAlone ? Math.max(1, greatest - least) : 1;
        for (int value = least; value <= greatest; value += apart) {
            place[i] = value;
            if (!last) {
                go(look, place, i + 1, endsAlone);
            } else if (has(place)) {
                look.at(place);
            }
        }
    }

    /** By the bounds of the term and of its sums with the variables before it. */
    private int greatestOf(int term, int[] place) {
        int greatest = Math.min(WINDOW, most[term][term]);
        for (int q = 0; q < term - term % 2; q++) {
            if (most[term][q] != ENDLESS) {
                greatest = Math.min(greatest, most[term][q] - value(place, q));
            }
        }
        return greatest;
    }

    private int placeInUsed(int variable) {
        for (int i = 0; i < used.length; i++) {
            if (used[i] == variable) {
                return i;
            }
        }
        return -1;
    }

    private int usedTerm(int term) {
        int i = placeInUsed(term / 2);
        if (i < 0) {
            throw new IllegalArgumentException("x" + term / 2 + " is not looked at");
        }
        return 2 * i + term % 2;
    }

    @Override
    public boolean isEmpty() {
        return empty;
    }

    @Override
    public SeenShape act(int kind, int a, int b, int c) {
        if (kind == 0) {
            return hold(usedTerm(a), usedTerm(b), c);
        }
        if (placeInUsed(a) < 0) {
            return kind == 2 && b == 0 && c == 0 ? withOther(a, true) : noSuchAction();
        }
        return kind == 1 ? tell(placeInUsed(a), usedTerm(b), c) : scatter(placeInUsed(a), b, c);
    }

    private SeenShape noSuchAction() {
        throw new IllegalArgumentException("of the other variables only 0 is looked at");
    }

    private SeenShape withOther(int variable, boolean isZero) {
        boolean[] zeroThen = zero.clone();
        zeroThen[variable] = isZero;
        return new SeenShape(used, zeroThen, most, empty);
    }

    private int[][] copyOfMost() {
        int[][] copy = new int[most.length][];
        for (int p = 0; p < copy.length; p++) {
            copy[p] = most[p].clone();
        }
        return copy;
    }

    private SeenShape seenWith(int[][] bounds, boolean[] zeroThen) {
        Seen seen = new Seen();
        new SeenShape(used, zeroThen, bounds, empty).eachEnd(seen);
        return seen.shape(zeroThen);
    }

    private SeenShape hold(int p, int q, int c) {
        int[][] bounds = copyOfMost();
        bounds[p][q] = Math.min(bounds[p][q], c);
        bounds[q][p] = bounds[p][q];
        return seenWith(bounds, zero).ifSmall();
    }

    private SeenShape tell(int i, int term, int more) {
        Seen seen = new Seen();
        eachEnd(place -> {
            int[] then = place.clone();
            then[i] = value(place, term) + more;
            seen.at(then);
        });
        return seen.shape(zero).ifSmall();
    }

    private SeenShape scatter(int i, int least, int greatest) {
        Seen seen = new Seen();
        eachEnd(place -> {
            int[] then = place.clone();
            for (int value = least; value <= greatest; value++) {
                then[i] = value;
                seen.at(then);
            }
        });
        return seen.shape(zero).ifSmall();
    }

    @Override
    public SeenShape forget(int variable) {
        int i = placeInUsed(variable);
        if (i < 0) {
            return withOther(variable, false);
        }
        Seen seen = new Seen();
        eachEnd(place -> {
            int[] then = place.clone();
            for (int value = -WINDOW; value <= WINDOW; value += WINDOW) {
                then[i] = value;
                seen.at(then);
            }
        });
        return seen.shape(zero).ifSmall();
    }

    @Override
    public SeenShape meet(SeenShape other) {
        if (empty || other.empty) {
            return noPlaces(used);
        }
        int[][] bounds = copyOfMost();
        boolean[] zeroThen = zero.clone();
        for (int p = 0; p < bounds.length; p++) {
            for (int q = 0; q < bounds.length; q++) {
                bounds[p][q] = Math.min(bounds[p][q], other.most[p][q]);
            }
        }
        for (int i = 0; i < zeroThen.length; i++) {
            zeroThen[i] |= other.zero[i];
        }
        return seenWith(bounds, zeroThen).ifSmall();
    }

    private boolean[] zeroInBoth(SeenShape other) {
        boolean[] both = zero.clone();
        for (int i = 0; i < both.length; i++) {
            both[i] &= other.zero[i];
        }
        return both;
    }

    @Override
    public SeenShape join(SeenShape other) {
        if (empty || other.empty) {
            return empty ? other : this;
        }
        Seen seen = new Seen();
        eachEnd(seen);
        other.eachEnd(seen);
        return seen.shape(zeroInBoth(other)).ifSmall();
    }

    @Override
    public SeenShape widen(SeenShape other) {
        if (empty || other.empty) {
            return empty ? other : this;
        }
        int[][] kept = table(used, ENDLESS);
        for (int p = 0; p < kept.length; p++) {
            for (int q = 0; q < kept.length; q++) {
                kept[p][q] = other.most[p][q] > most[p][q] ? ENDLESS : most[p][q];
            }
        }
        return seenWith(kept, zeroInBoth(other)).ifSmall();
    }

    @Override
    public boolean isInside(SeenShape other) {
        boolean[] inside = {true};
        eachEnd(place -> inside[0] &= other.has(place));
        for (int i = 0; i < zero.length && !empty; i++) {
            inside[0] &= zero[i] || !other.zero[i];
        }
        return inside[0];
    }

    @Override
    public BigInteger most(int p, int q) {
        int i = placeInUsed(p / 2);
        int j = placeInUsed(q / 2);
        if (i < 0 && !zero[p / 2] || j < 0 && !zero[q / 2]) {
            return null;
        }
        if (i < 0 && j < 0) {
            return BigInteger.ZERO;
        }
        int first = i < 0 ? usedTerm(q) : usedTerm(p);
        int second = j < 0 ? usedTerm(p) : usedTerm(q);
        return most[first][second] == ENDLESS ? null : BigInteger.valueOf(most[first][second]);
    }

    @Override
    public int bounds() {
        int count = 0;
        for (int p = 0; p < 12; p++) {
            for (int q = p; q < 12; q++) {
                count += p != (q ^ 1) && most(p, q) != null ? 1 : 0;
            }
        }
        return empty ? -1 : count;
    }

    @Override
    public BigInteger first(int variable) {
        SeenShape shape = this;
        for (int j = 0; j < variable; j++) {
            int i = placeInUsed(j);
            if (i >= 0) {
                shape = shape.with(i, shape.firstOf(i));
            }
        }
        int i = placeInUsed(variable);
        return BigInteger.valueOf(i < 0 ? 0 : shape.firstOf(i));
    }

    private int firstOf(int i) {
        if (most[2 * i + 1][2 * i + 1] != ENDLESS) {
            return -most[2 * i + 1][2 * i + 1];
        }
        return most[2 * i][2 * i] != ENDLESS ? most[2 * i][2 * i] : 0;
    }

    private SeenShape with(int i, int value) {
        int[][] bounds = copyOfMost();
        bounds[2 * i][2 * i] = value;
        bounds[2 * i + 1][2 * i + 1] = -value;
        return seenWith(bounds, zero);
    }

    @Override
    public int places() {
        if (empty) {
            return 0;
        }
        int box = 1;
        for (int i = 0; i < 6; i++) {
            if (most(2 * i, 2 * i) == null || most(2 * i + 1, 2 * i + 1) == null) {
                return -1;
            }
            box *= most(2 * i, 2 * i).intValue() + most(2 * i + 1, 2 * i + 1).intValue() + 1;
        }
        int[] count = {0};
        eachPlace(place -> count[0]++);
        return box > 4096 ? -1 : count[0];
    }
}
