import java.util.Arrays;

/**
 * Octagons over whole numbers: six slots with a shape each, and a small program that is gone
 * through with shapes until nothing new is reached. The document's words are used throughout.
 */
public final class OctagonDesk {
    public static final long INFINITE = 9223372036854775807L;
    public static final int NONE = -1;

    private static final int SLOTS = 6;
    private static final int VARIABLES = 6;
    private static final int TERMS = 12;
    private static final int POINTS = 8;
    private static final int STEP_LIMIT = 20;
    private static final int ROUND_LIMIT = 30;
    private static final int FIRST_WIDENING_ROUND = 4;
    private static final int NUMBER_LIMIT = 1000000;
    private static final int BOX_LIMIT = 4096;

    private static final int BOUND = 0;
    private static final int TELLING = 1;
    private static final int ANY = 2;

    private final Shape[] slots;
    private final Shape made;
    private final Step[] steps;
    private final long[] offsets;
    private int stepCount;
    private Shape[] left;
    private Shape[] reached;

    public OctagonDesk() {
        slots = emptyShapes(SLOTS);
        for (int slot = 0; slot < SLOTS; slot++) {
            slots[slot].allowAll();
        }
        left = emptyShapes(POINTS);
        reached = emptyShapes(POINTS);
        made = new Shape();
        offsets = new long[VARIABLES];
        stepCount = 0;
        steps = new Step[STEP_LIMIT];
        for (int i = 0; i < STEP_LIMIT; i++) {
            steps[i] = new Step();
        }
    }

    public boolean act(int slot, int kind, int a, int b, int c) throws IllegalArgumentException {
        requireSlot(slot);
        requireAction(kind, a, b, c);
        made.makeFrom(slots[slot], kind, a, b, c);
        putMade(slot);
        return !slots[slot].empty;
    }

    public void clear(int slot) throws IllegalArgumentException {
        requireSlot(slot);
        slots[slot].allowAll();
    }

    public void copy(int to, int a) throws IllegalArgumentException {
        requireSlot(to);
        requireSlot(a);
        slots[to].takeOver(slots[a]);
    }

    public boolean meet(int to, int a, int b) throws IllegalArgumentException {
        requireThreeSlots(to, a, b);
        made.takeOver(slots[a]);
        made.cutTo(slots[b]);
        putMade(to);
        return !slots[to].empty;
    }

    public void join(int to, int a, int b) throws IllegalArgumentException {
        requireThreeSlots(to, a, b);
        made.takeOver(slots[a]);
        made.stretchOver(slots[b]);
        putMade(to);
    }

    public void widen(int to, int a, int b) throws IllegalArgumentException {
        requireThreeSlots(to, a, b);
        made.takeOver(slots[a]);
        made.loosenBy(slots[b]);
        putMade(to);
    }

    public void forget(int slot, int i) throws IllegalArgumentException {
        requireSlot(slot);
        requireVariable(i);
        slots[slot].release(i);
    }

    public boolean isEmpty(int slot) throws IllegalArgumentException {
        requireSlot(slot);
        return slots[slot].empty;
    }

    public long most(int slot, int p, int q) throws IllegalArgumentException, IllegalStateException {
        requireSlot(slot);
        requireTerms(p, q);
        requirePlace(slot);
        return slots[slot].mostOf(p, q);
    }

    public boolean inside(int a, int b) throws IllegalArgumentException {
        requireSlot(a);
        requireSlot(b);
        return slots[a].isWithin(slots[b]);
    }

    public int bounds(int slot) throws IllegalArgumentException {
        requireSlot(slot);
        return slots[slot].empty ? NONE : slots[slot].countBounds();
    }

    public long first(int slot, int i) throws IllegalArgumentException, IllegalStateException {
        requireSlot(slot);
        requireVariable(i);
        requirePlace(slot);
        made.takeOver(slots[slot]);
        for (int variable = 0; variable <= i; variable++) {
            made.settle(variable);
            makeRoom(made);
        }
        return made.mostOf(2 * i, 2 * i);
    }

    public int places(int slot) throws IllegalArgumentException {
        requireSlot(slot);
        if (slots[slot].empty) {
            return 0;
        }
        made.takeOver(slots[slot]);
        if (!made.shiftToLeast() || !madeFitsTheBox()) {
            return NONE;
        }
        return countFrom(0);
    }

    public int step(int way, int kind, int a, int b, int c)
            throws IllegalArgumentException, IllegalStateException {
        if (way < 0 || way >= POINTS * POINTS) {
            throw new IllegalArgumentException("no such way");
        }
        requireAction(kind, a, b, c);
        if (stepCount >= STEP_LIMIT) {
            throw new IllegalStateException("there are as many steps as there may be");
        }
        steps[stepCount].write(way, kind, a, b, c);
        stepCount++;
        return stepCount - 1;
    }

    public int erase() {
        int count = stepCount;
        stepCount = 0;
        return count;
    }

    public int run(int slot) throws IllegalArgumentException {
        requireSlot(slot);
        for (int point = 0; point < POINTS; point++) {
            reached[point].empty = true;
        }
        reached[0].takeOver(slots[slot]);
        for (int round = 1; round <= ROUND_LIMIT; round++) {
            boolean changed = false;
            for (int i = 0; i < stepCount; i++) {
                changed |= follow(steps[i], round);
            }
            if (!changed) {
                keepReached();
                return round;
            }
        }
        return NONE;
    }

    public boolean take(int to, int point) throws IllegalArgumentException {
        requireSlot(to);
        if (point < 0 || point >= POINTS) {
            throw new IllegalArgumentException("no such point");
        }
        slots[to].takeOver(left[point]);
        return !slots[to].empty;
    }

    private static Shape[] emptyShapes(int count) {
        Shape[] shapes = new Shape[count];
        for (int i = 0; i < count; i++) {
            shapes[i] = new Shape();
        }
        return shapes;
    }

    private static void requireSlot(int slot) {
        if (slot < 0 || slot >= SLOTS) {
            throw new IllegalArgumentException("no such slot");
        }
    }

    private static void requireThreeSlots(int to, int a, int b) {
        requireSlot(to);
        requireSlot(a);
        requireSlot(b);
    }

    private static void requireVariable(int i) {
        if (i < 0 || i >= VARIABLES) {
            throw new IllegalArgumentException("no such variable");
        }
    }

    private static void requireTerm(int p) {
        if (p < 0 || p >= TERMS) {
            throw new IllegalArgumentException("no such term");
        }
    }

    private static void requireTerms(int p, int q) {
        requireTerm(p);
        requireTerm(q);
        if (p == negation(q)) {
            throw new IllegalArgumentException("the terms are each other's negation");
        }
    }

    private static void requireNumber(int c) {
        if (c < -NUMBER_LIMIT || c > NUMBER_LIMIT) {
            throw new IllegalArgumentException("no such number");
        }
    }

    private static void requireAction(int kind, int a, int b, int c) {
        requireNumber(c);
        if (kind == BOUND) {
            requireTerms(a, b);
        } else if (kind == TELLING) {
            requireVariable(a);
            requireTerm(b);
        } else if (kind == ANY) {
            requireVariable(a);
            requireNumber(b);
            if (b > c) {
                throw new IllegalArgumentException("no number is from b to c");
            }
        } else {
            throw new IllegalArgumentException("no such kind of action");
        }
    }

    private void requirePlace(int slot) {
        if (slots[slot].empty) {
            throw new IllegalStateException("the shape is empty");
        }
    }

    private static int negation(int term) {
        return term ^ 1;
    }

    private void putMade(int slot) {
        makeRoom(made);
        slots[slot].takeOver(made);
    }

    /** All shapes have numbers of one width, so that any two of them can be compared cell by cell. */
    private void makeRoom(Shape shape) {
        if (shape.empty || !shape.numbers.isCrowded()) {
            return;
        }
        growAll(slots);
        growAll(left);
        growAll(reached);
        made.numbers.growTwofold();
    }

    private static void growAll(Shape[] shapes) {
        for (int i = 0; i < shapes.length; i++) {
            shapes[i].numbers.growTwofold();
        }
    }

    private boolean follow(Step step, int round) {
        Shape end = reached[step.to];
        made.makeFrom(reached[step.from], step.kind, step.a, step.b, step.c);
        makeRoom(made);
        if (made.isWithin(end)) {
            return false;
        }
        if (round >= FIRST_WIDENING_ROUND && step.to <= step.from) {
            // A most is greater in the join than at the end just where it is so in what was made.
            end.loosenBy(made);
            makeRoom(end);
        } else {
            end.stretchOver(made);
        }
        return true;
    }

    private void keepReached() {
        Shape[] before = left;
        left = reached;
        reached = before;
    }

    /** Whether the box round the shape that was shifted to its least values is small enough. */
    private boolean madeFitsTheBox() {
        long box = 1;
        for (int i = 0; i < VARIABLES; i++) {
            long spread = made.mostOf(2 * i, 2 * i);
            // Below 0 only behind call 512, when numbers may have outgrown all room: counting ends then, too.
            if (spread < 0 || spread >= BOX_LIMIT) {
                return false;
            }
            box *= spread + 1;
            if (box > BOX_LIMIT) {
                return false;
            }
        }
        return true;
    }

    /** How many places the shifted shape has, the variables before this one being as offsets say. */
    private int countFrom(int variable) {
        if (variable >= VARIABLES) {
            return 1;
        }
        int up = 2 * variable;
        int down = up + 1;
        long low = 0;
        long high = made.mostOf(up, up);
        for (int i = 0; i < variable; i++) {
            long at = offsets[i];
            high = Math.min(high, made.mostOf(up, 2 * i) - at);
            high = Math.min(high, made.mostOf(up, 2 * i + 1) + at);
            low = Math.max(low, at - made.mostOf(down, 2 * i));
            low = Math.max(low, -at - made.mostOf(down, 2 * i + 1));
        }
        int count = 0;
        for (long value = low; value <= high; value++) {
            offsets[variable] = value;
            count += countFrom(variable + 1);
        }
        return count;
    }

    private static final class Step {
        int from;
        int to;
        int kind;
        int a;
        int b;
        int c;

        void write(int way, int newKind, int newA, int newB, int newC) {
            from = way / POINTS;
            to = way % POINTS;
            kind = newKind;
            a = newA;
            b = newB;
            c = newC;
        }
    }

    /**
     * The cell of two terms p and q says the most that p + q is, so that of p and p is twice the
     * most of p alone, and that of p and its negation is 0. Between calls the cells of a shape
     * that is not empty are as low as its places let them be; an empty shape's cells say nothing.
     */
    private static final class Shape {
        private static final int PAIRS = TERMS * TERMS;
        private static final int ALONE = PAIRS;
        private static final int SPARE = ALONE + TERMS;
        private static final int CELLS = SPARE + 1;

        final Numbers numbers;
        boolean empty;

        Shape() {
            numbers = new Numbers(CELLS);
            empty = true;
        }

        private static int cell(int p, int q) {
            return p * TERMS + q;
        }

        void allowAll() {
            empty = false;
            for (int i = 0; i < VARIABLES; i++) {
                release(i);
            }
        }

        void takeOver(Shape other) {
            numbers.takeOver(other.numbers);
            empty = other.empty;
        }

        void makeFrom(Shape before, int kind, int a, int b, int c) {
            if (kind == TELLING) {
                tell(before, a, b, c);
                return;
            }
            takeOver(before);
            if (kind == BOUND) {
                numbers.set(SPARE, a == b ? 2 * c : c);
                holdToSpare(a, b);
            } else {
                scatter(a, b, c);
            }
        }

        /** What xi's bounds said of the others stays, since the others' cells are as low as can be. */
        void release(int i) {
            for (int p = 2 * i; p <= 2 * i + 1; p++) {
                for (int q = 0; q < TERMS; q++) {
                    numbers.setInfinite(cell(p, q));
                    numbers.setInfinite(cell(q, p));
                }
            }
            numbers.set(cell(2 * i, 2 * i + 1), 0);
            numbers.set(cell(2 * i + 1, 2 * i), 0);
        }

        /** Keeps the places at which p + q is at most what the spare cell says. */
        private void holdToSpare(int p, int q) {
            if (empty || !numbers.isLess(SPARE, numbers, cell(p, q))) {
                return;
            }
            numbers.put(cell(p, q), numbers, SPARE);
            numbers.put(cell(q, p), numbers, SPARE);
            passThrough(p, q);
            if (p != q) {
                passThrough(q, p);
            }
            combineSingles();
        }

        /** What the new value adds up to is what its term added up to before, so nothing is lost. */
        private void tell(Shape before, int variable, int term, int more) {
            empty = before.empty;
            for (int p = 0; p < TERMS; p++) {
                int oldP = oldTerm(p, variable, term);
                int moreP = moreOf(p, variable, more);
                for (int q = 0; q < TERMS; q++) {
                    int old = cell(oldP, oldTerm(q, variable, term));
                    numbers.putMore(cell(p, q), before.numbers, old, moreP + moreOf(q, variable, more));
                }
            }
        }

        private static int oldTerm(int p, int variable, int term) {
            if (p / 2 != variable) {
                return p;
            }
            return p % 2 == 0 ? term : negation(term);
        }

        private static int moreOf(int p, int variable, int more) {
            if (p / 2 != variable) {
                return 0;
            }
            return p % 2 == 0 ? more : -more;
        }

        private void scatter(int i, long least, long greatest) {
            release(i);
            numbers.set(cell(2 * i, 2 * i), 2 * greatest);
            numbers.set(cell(2 * i + 1, 2 * i + 1), -2 * least);
            combineSingles();
        }

        void cutTo(Shape other) {
            if (other.empty) {
                empty = true;
            }
            if (empty) {
                return;
            }
            for (int i = 0; i < PAIRS; i++) {
                if (other.numbers.isLess(i, numbers, i)) {
                    numbers.put(i, other.numbers, i);
                }
            }
            close();
        }

        /** Joined with an empty shape, or widened by or from one, a shape stays as it is. */
        private boolean isSettledByEmptiness(Shape other) {
            boolean settled = empty || other.empty;
            if (empty) {
                takeOver(other);
            }
            return settled;
        }

        /** The greater of two cells that are as low as can be is as low as can be for both. */
        void stretchOver(Shape other) {
            if (isSettledByEmptiness(other)) {
                return;
            }
            for (int i = 0; i < PAIRS; i++) {
                if (numbers.isLess(i, other.numbers, i)) {
                    numbers.put(i, other.numbers, i);
                }
            }
        }

        void loosenBy(Shape other) {
            if (isSettledByEmptiness(other)) {
                return;
            }
            for (int i = 0; i < PAIRS; i++) {
                if (numbers.isLess(i, other.numbers, i)) {
                    numbers.setInfinite(i);
                }
            }
            close();
        }

        boolean isWithin(Shape other) {
            if (empty || other.empty) {
                return empty;
            }
            for (int i = 0; i < PAIRS; i++) {
                if (other.numbers.isLess(i, numbers, i)) {
                    return false;
                }
            }
            return true;
        }

        long mostOf(int p, int q) {
            if (p != q) {
                return numbers.nearestLong(cell(p, q));
            }
            numbers.putHalf(SPARE, cell(p, p));
            return numbers.nearestLong(SPARE);
        }

        int countBounds() {
            int count = 0;
            for (int p = 0; p < TERMS; p++) {
                for (int q = p; q < TERMS; q++) {
                    if (q != negation(p) && !numbers.isInfinite(cell(p, q))) {
                        count++;
                    }
                }
            }
            return count;
        }

        /** Leaves xi its least value alone, else its greatest, else 0. */
        void settle(int i) {
            int up = cell(2 * i, 2 * i);
            int down = cell(2 * i + 1, 2 * i + 1);
            if (numbers.isInfinite(up) && numbers.isInfinite(down)) {
                numbers.set(SPARE, 0);
                holdToSpare(2 * i, 2 * i);
            }
            if (numbers.isInfinite(down)) {
                numbers.putNegative(SPARE, up);
                holdToSpare(2 * i + 1, 2 * i + 1);
            } else {
                numbers.putNegative(SPARE, down);
                holdToSpare(2 * i, 2 * i);
            }
        }

        /** Shifts every variable so that its least value is 0; false if one has no least or greatest. */
        boolean shiftToLeast() {
            for (int i = 0; i < VARIABLES; i++) {
                int down = cell(2 * i + 1, 2 * i + 1);
                if (numbers.isInfinite(cell(2 * i, 2 * i)) || numbers.isInfinite(down)) {
                    return false;
                }
                numbers.putHalf(ALONE + 2 * i, down);
                numbers.putNegative(ALONE + 2 * i + 1, ALONE + 2 * i);
            }
            for (int p = 0; p < TERMS; p++) {
                for (int q = 0; q < TERMS; q++) {
                    numbers.putSum(cell(p, q), cell(p, q), ALONE + p);
                    numbers.putSum(cell(p, q), cell(p, q), ALONE + q);
                }
            }
            return true;
        }

        /** Lowers what chains of bounds add up to that go through the cell of p and q once. */
        private void passThrough(int p, int q) {
            numbers.putSum(SPARE, cell(p, q), cell(negation(q), negation(p)));
            if (empty || numbers.isNegative(SPARE)) {
                empty = true;
                return;
            }
            for (int i = 0; i < TERMS; i++) {
                numbers.putSum(SPARE, cell(i, negation(p)), cell(p, q));
                for (int j = 0; j < TERMS && !numbers.isInfinite(SPARE); j++) {
                    numbers.lower(cell(i, j), SPARE, cell(negation(q), j));
                }
            }
        }

        /** Stops at the first contradiction, since sums that go round one grow without need. */
        private void close() {
            for (int k = 0; k < TERMS && !empty; k++) {
                for (int p = 0; p < TERMS; p++) {
                    for (int q = 0; q < TERMS && !numbers.isInfinite(cell(p, k)); q++) {
                        numbers.lower(cell(p, q), cell(p, k), cell(negation(k), q));
                    }
                }
                findContradiction();
            }
            combineSingles();
        }

        /** The half is rounded down, as whole numbers ask, so that p and p get an even number too. */
        private void combineSingles() {
            if (empty) {
                return;
            }
            for (int p = 0; p < TERMS; p++) {
                numbers.putHalf(ALONE + p, cell(p, p));
            }
            for (int p = 0; p < TERMS; p++) {
                for (int q = 0; q < TERMS && !numbers.isInfinite(ALONE + p); q++) {
                    numbers.lower(cell(p, q), ALONE + p, ALONE + q);
                }
            }
            findContradiction();
        }

        private void findContradiction() {
            for (int p = 0; p < TERMS; p++) {
                if (numbers.isNegative(cell(p, negation(p)))) {
                    empty = true;
                }
            }
        }
    }

    /**
     * Cells with a whole number each, or infinite. Meeting shapes that were built of one another
     * doubles numbers, and so does a run that comes to no end, both far beyond long; so a number has
     * limbs: the highest one with the sign, those below it from 0 to LIMB_MASK. With one limb, which
     * is nearly always enough, it is a plain long.
     */
    private static final class Numbers {
        private static final int LIMB_BITS = 60;
        private static final long LIMB_MASK = (1L << LIMB_BITS) - 1;
        private static final long GREATEST_LONG = INFINITE;
        private static final long LEAST_LONG = -INFINITE - 1;
        // No action makes a number more than some fifty times as great, which a limb then still holds.
        private static final long CROWDED = 1L << 54;
        // Far above what 512 calls can reach.
        private static final int LIMB_LIMIT = 512;

        private final int cells;
        private final int sum;
        private long[] limbs;
        private int top;

        Numbers(int count) {
            sum = count;
            cells = count + 1;
            limbs = new long[cells];
            top = 0;
        }

        boolean isInfinite(int i) {
            return limbs[top + i] == INFINITE;
        }

        boolean isNegative(int i) {
            return limbs[top + i] < 0;
        }

        boolean isLess(int i, Numbers other, int j) {
            for (int at = top; at >= 0; at -= cells) {
                long mine = limbs[at + i];
                long others = other.limbs[at + j];
                if (mine != others) {
                    return mine < others;
                }
            }
            return false;
        }

        long nearestLong(int i) {
            long value = limbs[top + i];
            if (value == INFINITE) {
                return INFINITE;
            }
            for (int at = top - cells; at >= 0; at -= cells) {
                if (value > GREATEST_LONG >> LIMB_BITS) {
                    return GREATEST_LONG;
                }
                if (value < LEAST_LONG >> LIMB_BITS) {
                    return LEAST_LONG;
                }
                value = (value << LIMB_BITS) + limbs[at + i];
            }
            return value;
        }

        void takeOver(Numbers other) {
            System.arraycopy(other.limbs, 0, limbs, 0, limbs.length);
        }

        void set(int i, long value) {
            long rest = value;
            for (int at = 0; at < top; at += cells) {
                limbs[at + i] = rest & LIMB_MASK;
                rest >>= LIMB_BITS;
            }
            limbs[top + i] = rest;
        }

        void setInfinite(int i) {
            for (int at = 0; at < top; at += cells) {
                limbs[at + i] = 0;
            }
            limbs[top + i] = INFINITE;
        }

        void put(int to, Numbers from, int i) {
            for (int at = 0; at <= top; at += cells) {
                limbs[at + to] = from.limbs[at + i];
            }
        }

        void putMore(int to, Numbers from, int i, long more) {
            if (from.isInfinite(i)) {
                setInfinite(to);
                return;
            }
            long carry = more;
            for (int at = 0; at < top; at += cells) {
                carry += from.limbs[at + i];
                limbs[at + to] = carry & LIMB_MASK;
                carry >>= LIMB_BITS;
            }
            limbs[top + to] = from.limbs[top + i] + carry;
        }

        void putSum(int to, int i, int j) {
            boolean infinite = limbs[top + i] == INFINITE || limbs[top + j] == INFINITE;
            long carry = 0;
            for (int at = 0; at < top; at += cells) {
                carry += limbs[at + i] + limbs[at + j];
                limbs[at + to] = infinite ? 0 : carry & LIMB_MASK;
                carry >>= LIMB_BITS;
            }
            limbs[top + to] = infinite ? INFINITE : limbs[top + i] + limbs[top + j] + carry;
        }

        void lower(int i, int j, int k) {
            putSum(sum, j, k);
            if (isLess(sum, this, i)) {
                put(i, this, sum);
            }
        }

        void putNegative(int to, int i) {
            if (isInfinite(i)) {
                setInfinite(to);
                return;
            }
            long carry = 0;
            for (int at = 0; at < top; at += cells) {
                carry -= limbs[at + i];
                limbs[at + to] = carry & LIMB_MASK;
                carry >>= LIMB_BITS;
            }
            limbs[top + to] = carry - limbs[top + i];
        }

        void putHalf(int to, int i) {
            if (isInfinite(i)) {
                setInfinite(to);
                return;
            }
            long rest = limbs[top + i] & 1;
            limbs[top + to] = limbs[top + i] >> 1;
            for (int at = top - cells; at >= 0; at -= cells) {
                long limb = limbs[at + i] + (rest << LIMB_BITS);
                rest = limb & 1;
                limbs[at + to] = limb >> 1;
            }
        }

        boolean isCrowded() {
            for (int i = 0; i < cells; i++) {
                long high = limbs[top + i];
                if (high != INFINITE && (high >= CROWDED || high < -CROWDED)) {
                    return true;
                }
            }
            return false;
        }

        void growTwofold() {
            if (limbs.length >= LIMB_LIMIT * cells) {
                return;
            }
            int oldTop = top;
            limbs = Arrays.copyOf(limbs, 2 * limbs.length);
            top = limbs.length - cells;
            for (int i = 0; i < cells; i++) {
                extend(i, oldTop);
            }
        }

        private void extend(int i, int oldTop) {
            long high = limbs[oldTop + i];
            if (high == INFINITE) {
                setInfinite(i);
                return;
            }
            for (int at = oldTop; at < top; at += cells) {
                limbs[at + i] = high & LIMB_MASK;
                high >>= LIMB_BITS;
            }
            limbs[top + i] = high;
        }
    }
}
