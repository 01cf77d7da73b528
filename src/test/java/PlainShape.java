import java.math.BigInteger;

/**
 * The document's shapes in the slowest and plainest way: numbers of any size, every rule used again
 * and again until it brings nothing, new values told by a seventh variable that takes the old one's
 * place.
 */
final class PlainShape implements SomeShape<PlainShape> {
    static final int VARIABLES = 6;
    private static final int HELPER = VARIABLES;
    private static final int TERMS = 2 * (VARIABLES + 1);

    private final BigInteger[][] most = new BigInteger[TERMS][TERMS];
    private boolean empty;

    static PlainShape allPlaces() {
        PlainShape shape = new PlainShape();
        for (int p = 0; p < TERMS; p++) {
            shape.most[p][p ^ 1] = BigInteger.ZERO;
        }
        return shape;
    }

    static PlainShape noPlaces() {
        PlainShape shape = allPlaces();
        shape.empty = true;
        return shape;
    }

    PlainShape copy() {
        PlainShape shape = new PlainShape();
        for (int p = 0; p < TERMS; p++) {
            shape.most[p] = most[p].clone();
        }
        shape.empty = empty;
        return shape;
    }

    @Override
    public boolean isEmpty() {
        return empty;
    }

    @Override
    public BigInteger most(int p, int q) {
        if (p != q || most[p][p] == null) {
            return most[p][q];
        }
        return half(most[p][p]);
    }

    @Override
    public PlainShape act(int kind, int a, int b, int c) {
        if (empty) {
            return this;
        }
        PlainShape shape = copy();
        if (kind == 0) {
            shape.bound(a, b, BigInteger.valueOf(c));
        } else if (kind == 1) {
            shape.bound(2 * HELPER, b ^ 1, BigInteger.valueOf(c));
            shape.bound(2 * HELPER + 1, b, BigInteger.valueOf(-c));
            shape.close();
            shape.drop(a);
            shape.bound(2 * HELPER, 2 * a + 1, BigInteger.ZERO);
            shape.bound(2 * HELPER + 1, 2 * a, BigInteger.ZERO);
            shape.close();
            shape.drop(HELPER);
        } else {
            shape.drop(a);
            shape.bound(2 * a, 2 * a, BigInteger.valueOf(c));
            shape.bound(2 * a + 1, 2 * a + 1, BigInteger.valueOf(-b));
        }
        shape.close();
        return shape;
    }

    @Override
    public PlainShape forget(int i) {
        PlainShape shape = copy();
        shape.drop(i);
        return shape;
    }

    @Override
    public PlainShape meet(PlainShape other) {
        if (empty || other.empty) {
            return noPlaces();
        }
        PlainShape shape = copy();
        for (int p = 0; p < TERMS; p++) {
            for (int q = 0; q < TERMS; q++) {
                if (other.most[p][q] != null) {
                    shape.lower(p, q, other.most[p][q]);
                }
            }
        }
        shape.close();
        return shape;
    }

    @Override
    public PlainShape join(PlainShape other) {
        if (empty || other.empty) {
            return empty ? other : this;
        }
        PlainShape shape = copy();
        for (int p = 0; p < TERMS; p++) {
            for (int q = 0; q < TERMS; q++) {
                if (isAbove(other.most[p][q], most[p][q])) {
                    shape.most[p][q] = other.most[p][q];
                }
            }
        }
        shape.close();
        return shape;
    }

    @Override
    public PlainShape widen(PlainShape other) {
        if (empty || other.empty) {
            return empty ? other : this;
        }
        PlainShape shape = copy();
        for (int p = 0; p < TERMS; p++) {
            for (int q = 0; q < TERMS; q++) {
                if (isAbove(other.most[p][q], most[p][q])) {
                    shape.most[p][q] = null;
                }
            }
        }
        shape.close();
        return shape;
    }

    @Override
    public boolean isInside(PlainShape other) {
        if (empty || other.empty) {
            return empty;
        }
        for (int p = 0; p < TERMS; p++) {
            for (int q = 0; q < TERMS; q++) {
                if (isAbove(most[p][q], other.most[p][q])) {
                    return false;
                }
            }
        }
        return true;
    }

    @Override
    public int bounds() {
        if (empty) {
            return -1;
        }
        int count = 0;
        for (int p = 0; p < 2 * VARIABLES; p++) {
            for (int q = p; q < 2 * VARIABLES; q++) {
                if (q != (p ^ 1) && most[p][q] != null) {
                    count++;
                }
            }
        }
        return count;
    }

    @Override
    public BigInteger first(int i) {
        PlainShape shape = copy();
        BigInteger value = BigInteger.ZERO;
        for (int j = 0; j <= i; j++) {
            BigInteger least = shape.most(2 * j + 1, 2 * j + 1);
            BigInteger greatest = shape.most(2 * j, 2 * j);
            value = BigInteger.ZERO;
            if (least != null) {
                value = least.negate();
            } else if (greatest != null) {
                value = greatest;
            }
            shape.bound(2 * j, 2 * j, value);
            shape.bound(2 * j + 1, 2 * j + 1, value.negate());
            shape.close();
        }
        return value;
    }

    @Override
    public int places() {
        if (empty) {
            return 0;
        }
        BigInteger box = BigInteger.ONE;
        for (int i = 0; i < VARIABLES; i++) {
            if (most[2 * i][2 * i] == null || most[2 * i + 1][2 * i + 1] == null) {
                return -1;
            }
            box = box.multiply(most(2 * i, 2 * i).add(most(2 * i + 1, 2 * i + 1)).add(BigInteger.ONE));
        }
        if (box.compareTo(BigInteger.valueOf(4096)) > 0) {
            return -1;
        }
        return countPlaces(new BigInteger[VARIABLES], 0);
    }

    private int countPlaces(BigInteger[] place, int i) {
        if (i == VARIABLES) {
            return has(place) ? 1 : 0;
        }
        int count = 0;
        BigInteger greatest = most(2 * i, 2 * i);
        BigInteger value = most(2 * i + 1, 2 * i + 1).negate();
        for (; value.compareTo(greatest) <= 0; value = value.add(BigInteger.ONE)) {
            place[i] = value;
            count += countPlaces(place, i + 1);
        }
        return count;
    }

    private boolean has(BigInteger[] place) {
        for (int p = 0; p < 2 * VARIABLES; p++) {
            for (int q = 0; q < 2 * VARIABLES; q++) {
                if (isAbove(valueOf(p, place).add(valueOf(q, place)), most[p][q])) {
                    return false;
                }
            }
        }
        return true;
    }

    private static BigInteger valueOf(int term, BigInteger[] place) {
        return term % 2 == 0 ? place[term / 2] : place[term / 2].negate();
    }

    private static boolean isAbove(BigInteger a, BigInteger b) {
        return b != null && (a == null || a.compareTo(b) > 0);
    }

    private static BigInteger half(BigInteger number) {
        return number.shiftRight(1);
    }

    private boolean lower(int p, int q, BigInteger c) {
        if (most[p][q] != null && most[p][q].compareTo(c) <= 0) {
            return false;
        }
        most[p][q] = c;
        most[q][p] = c;
        return true;
    }

    private void bound(int p, int q, BigInteger c) {
        lower(p, q, p == q ? c.add(c) : c);
    }

    private void drop(int i) {
        for (int p = 2 * i; p <= 2 * i + 1; p++) {
            for (int q = 0; q < TERMS; q++) {
                most[p][q] = null;
                most[q][p] = null;
            }
            most[p][p ^ 1] = BigInteger.ZERO;
            most[p ^ 1][p] = BigInteger.ZERO;
        }
    }

    private void close() {
        boolean changed = true;
        while (changed && !empty) {
            changed = addUp();
            changed |= useWholeNumbers();
            for (int p = 0; p < TERMS; p++) {
                empty |= most[p][p ^ 1].signum() < 0;
            }
        }
    }

    private boolean addUp() {
        boolean changed = false;
        for (int p = 0; p < TERMS; p++) {
            for (int q = 0; q < TERMS; q++) {
                for (int k = 0; k < TERMS; k++) {
                    if (most[p][k] != null && most[k ^ 1][q] != null) {
                        changed |= lower(p, q, most[p][k].add(most[k ^ 1][q]));
                    }
                }
            }
        }
        return changed;
    }

    private boolean useWholeNumbers() {
        boolean changed = false;
        for (int p = 0; p < TERMS; p++) {
            for (int q = 0; q < TERMS; q++) {
                if (most[p][p] != null && most[q][q] != null) {
                    changed |= lower(p, q, half(most[p][p]).add(half(most[q][q])));
                }
            }
        }
        return changed;
    }
}
