/**
 * Octagons over whole numbers: six slots with a shape each, and a small program that is gone
 * through with shapes until nothing new is reached. The document's words are used throughout.
 */
public final class OctagonDesk {
    public static final long INFINITE = 9223372036854775807L;
    public static final int NONE = -1;

    private static final int SLOTS = 6;
    private static final int VARIABLES = 6;
    private static final int TERMS = 12;
    private static final int POINTS = 8;
    private static final int CELLS = TERMS * (TERMS + 1) / 2;
    private static final int SHAPES = SLOTS + 2 * POINTS + 1;
    private static final int STEP_LIMIT = 20;
    private static final int ROUND_LIMIT = 30;
    private static final int FIRST_WIDENING_ROUND = 4;
    private static final int NUMBER_LIMIT = 1000000;
    private static final int BOX_LIMIT = 4096;

    private static final int BOUND = 0;
    private static final int TELLING = 1;
    private static final int ANY = 2;

    private final Shape[] slots;
    private final Shape made;
    private final Step[] steps;
    private final long[] offsets;
    private int stepCount;
    private Shape[] left;
    private Shape[] reached;

    public OctagonDesk() {
        Bench bench = new Bench();
        slots = emptyShapes(bench, SLOTS);
        for (int slot = 0; slot < SLOTS; slot++) {
            slots[slot].allowAll();
        }
        left = emptyShapes(bench, POINTS);
        reached = emptyShapes(bench, POINTS);
        made = new Shape(bench);
        offsets = new long[VARIABLES];
        stepCount = 0;
        steps = new Step[STEP_LIMIT];
        for (int i = 0; i < STEP_LIMIT; i++) {
            steps[i] = new Step();
        }
    }

    public boolean act(int slot, int kind, int a, int b, int c) throws IllegalArgumentException {
        requireSlot(slot);
        requireAction(kind, a, b, c);
        made.makeFrom(slots[slot], kind, a, b, c);
        slots[slot].takeOver(made);
        return !slots[slot].empty;
    }

    public void clear(int slot) throws IllegalArgumentException {
        requireSlot(slot);
        slots[slot].allowAll();
    }

    public void copy(int to, int a) throws IllegalArgumentException {
        requireSlot(to);
        requireSlot(a);
        slots[to].takeOver(slots[a]);
    }

    public boolean meet(int to, int a, int b) throws IllegalArgumentException {
        requireThreeSlots(to, a, b);
        made.takeOver(slots[a]);
        made.cutTo(slots[b]);
        slots[to].takeOver(made);
        return !slots[to].empty;
    }

    public void join(int to, int a, int b) throws IllegalArgumentException {
        requireThreeSlots(to, a, b);
        made.takeOver(slots[a]);
        made.stretchOver(slots[b]);
        slots[to].takeOver(made);
    }

    public void widen(int to, int a, int b) throws IllegalArgumentException {
        requireThreeSlots(to, a, b);
        made.takeOver(slots[a]);
        made.loosenBy(slots[b]);
        slots[to].takeOver(made);
    }

    public void forget(int slot, int i) throws IllegalArgumentException {
        requireSlot(slot);
        requireVariable(i);
        slots[slot].release(i);
    }

    public boolean isEmpty(int slot) throws IllegalArgumentException {
        requireSlot(slot);
        return slots[slot].empty;
    }

    public long most(int slot, int p, int q) throws IllegalArgumentException, IllegalStateException {
        requireSlot(slot);
        requireTerms(p, q);
        requirePlace(slot);
        return slots[slot].mostOf(p, q);
    }

    public boolean inside(int a, int b) throws IllegalArgumentException {
        requireSlot(a);
        requireSlot(b);
        return slots[a].isWithin(slots[b]);
    }

    public int bounds(int slot) throws IllegalArgumentException {
        requireSlot(slot);
        return slots[slot].empty ? NONE : slots[slot].countBounds();
    }

    public long first(int slot, int i) throws IllegalArgumentException, IllegalStateException {
        requireSlot(slot);
        requireVariable(i);
        requirePlace(slot);
        made.takeOver(slots[slot]);
        for (int variable = 0; variable <= i; variable++) {
            made.settle(variable);
        }
        return made.mostOf(2 * i, 2 * i);
    }

    public int places(int slot) throws IllegalArgumentException {
        requireSlot(slot);
        if (slots[slot].empty) {
            return 0;
        }
        made.takeOver(slots[slot]);
        if (!made.shiftToLeast() || !madeFitsTheBox()) {
            return NONE;
        }
        return countFrom(0);
    }

    public int step(int way, int kind, int a, int b, int c)
            throws IllegalArgumentException, IllegalStateException {
        if (way < 0 || way >= POINTS * POINTS) {
            throw new IllegalArgumentException("no such way");
        }
        requireAction(kind, a, b, c);
        if (stepCount >= STEP_LIMIT) {
            throw new IllegalStateException("there are as many steps as there may be");
        }
        steps[stepCount].write(way, kind, a, b, c);
        stepCount++;
        return stepCount - 1;
    }

    public int erase() {
        int count = stepCount;
        stepCount = 0;
        return count;
    }

    public int run(int slot) throws IllegalArgumentException {
        requireSlot(slot);
        for (int point = 0; point < POINTS; point++) {
            reached[point].allowNone();
        }
        reached[0].takeOver(slots[slot]);
        for (int round = 1; round <= ROUND_LIMIT; round++) {
            boolean changed = false;
            for (int i = 0; i < stepCount; i++) {
                changed |= follow(steps[i], round);
            }
            if (!changed) {
                keepReached();
                return round;
            }
        }
        return NONE;
    }

    public boolean take(int to, int point) throws IllegalArgumentException {
        requireSlot(to);
        if (point < 0 || point >= POINTS) {
            throw new IllegalArgumentException("no such point");
        }
        slots[to].takeOver(left[point]);
        return !slots[to].empty;
    }

    private static Shape[] emptyShapes(Bench bench, int count) {
        Shape[] shapes = new Shape[count];
        for (int i = 0; i < count; i++) {
            shapes[i] = new Shape(bench);
        }
        return shapes;
    }

    private static void requireSlot(int slot) {
        if (slot < 0 || slot >= SLOTS) {
            throw new IllegalArgumentException("no such slot");
        }
    }

    private static void requireThreeSlots(int to, int a, int b) {
        requireSlot(to);
        requireSlot(a);
        requireSlot(b);
    }

    private static void requireVariable(int i) {
        if (i < 0 || i >= VARIABLES) {
            throw new IllegalArgumentException("no such variable");
        }
    }

    private static void requireTerm(int p) {
        if (p < 0 || p >= TERMS) {
            throw new IllegalArgumentException("no such term");
        }
    }

    private static void requireTerms(int p, int q) {
        requireTerm(p);
        requireTerm(q);
        if (p == negation(q)) {
            throw new IllegalArgumentException("the terms are each other's negation");
        }
    }

    private static void requireNumber(int c) {
        if (c < -NUMBER_LIMIT || c > NUMBER_LIMIT) {
            throw new IllegalArgumentException("no such number");
        }
    }

    private static void requireAction(int kind, int a, int b, int c) {
        requireNumber(c);
        if (kind == BOUND) {
            requireTerms(a, b);
        } else if (kind == TELLING) {
            requireVariable(a);
            requireTerm(b);
        } else if (kind == ANY) {
            requireVariable(a);
            requireNumber(b);
            if (b > c) {
                throw new IllegalArgumentException("no number is from b to c");
            }
        } else {
            throw new IllegalArgumentException("no such kind of action");
        }
    }

    private void requirePlace(int slot) {
        if (slots[slot].empty) {
            throw new IllegalStateException("the shape is empty");
        }
    }

    private static int negation(int term) {
        return term ^ 1;
    }

    private boolean follow(Step step, int round) {
        Shape end = reached[step.to];
        made.makeFrom(reached[step.from], step.kind, step.a, step.b, step.c);
        if (made.isWithin(end)) {
            return false;
        }
        if (round >= FIRST_WIDENING_ROUND && step.to <= step.from) {
            // A most is greater in the join than at the end just where it is so in what was made.
            end.loosenBy(made);
        } else {
            end.stretchOver(made);
        }
        return true;
    }

    private void keepReached() {
        Shape[] before = left;
        left = reached;
        reached = before;
    }

    /** Whether the box round the shape that was shifted to its least values is small enough. */
    private boolean madeFitsTheBox() {
        long box = 1;
        for (int i = 0; i < VARIABLES; i++) {
            long spread = made.mostOf(2 * i, 2 * i);
            // Below 0 only if numbers have outgrown all room, as they may behind call 512: counting ends then, too.
            if (spread < 0 || spread >= BOX_LIMIT) {
                return false;
            }
            box *= spread + 1;
            if (box > BOX_LIMIT) {
                return false;
            }
        }
        return true;
    }

    /** How many places the shifted shape has, the variables before this one being as offsets say. */
    private int countFrom(int variable) {
        if (variable >= VARIABLES) {
            return 1;
        }
        int up = 2 * variable;
        int down = up + 1;
        long low = 0;
        long high = made.mostOf(up, up);
        for (int i = 0; i < variable; i++) {
            long at = offsets[i];
            high = Math.min(high, made.mostOf(up, 2 * i) - at);
            high = Math.min(high, made.mostOf(up, 2 * i + 1) + at);
            low = Math.max(low, at - made.mostOf(down, 2 * i));
            low = Math.max(low, -at - made.mostOf(down, 2 * i + 1));
        }
        int count = 0;
        for (long value = low; value <= high; value++) {
            offsets[variable] = value;
            count += countFrom(variable + 1);
        }
        return count;
    }

    private static final class Step {
        int from;
        int to;
        int kind;
        int a;
        int b;
        int c;

        void write(int way, int newKind, int newA, int newB, int newC) {
            from = way / POINTS;
            to = way % POINTS;
            kind = newKind;
            a = newA;
            b = newB;
            c = newC;
        }
    }

    /**
     * What the shapes of one desk share: the numbers in their cells, and rows to work something out
     * in. The scratch row has a number for each term alone, and a spare one.
     */
    private static final class Bench {
        private static final int SPARE = TERMS;
        private static final int SCRATCH = TERMS + 1;

        final Numbers numbers;
        final long[] scratch;
        final boolean[] loose;

        Bench() {
            // Each giant is named by a cell or by the scratch row, but for one that is being made.
            numbers = new Numbers(SHAPES * CELLS + SCRATCH + 1);
            scratch = new long[SCRATCH];
            loose = new boolean[CELLS];
        }

        void note(int i, long number) {
            scratch[i] = numbers.replace(scratch[i], number);
        }
    }

    /**
     * The cell of two terms p and q says the most that p + q is, so that of p and p is twice the
     * most of p alone, and that of p and its negation is 0. Between calls the cells of a shape
     * that is not empty are as low as its places let them be; an empty shape's cells say nothing.
     */
    private static final class Shape {
        private final Bench bench;
        private final Numbers numbers;
        private final long[] cells;
        boolean empty;

        Shape(Bench shared) {
            bench = shared;
            numbers = shared.numbers;
            cells = new long[CELLS];
            empty = true;
        }

        private static int cell(int p, int q) {
            return p < q ? q * (q + 1) / 2 + p : p * (p + 1) / 2 + q;
        }

        private void put(int i, long number) {
            cells[i] = numbers.replace(cells[i], number);
        }

        /** Cells that say nothing name no number, so that its room is free for others. */
        void allowNone() {
            empty = true;
            for (int i = 0; i < CELLS; i++) {
                cells[i] = numbers.replace(cells[i], 0);
            }
        }

        void allowAll() {
            empty = false;
            for (int i = 0; i < VARIABLES; i++) {
                release(i);
            }
        }

        void takeOver(Shape other) {
            empty = other.empty;
            for (int i = 0; i < CELLS; i++) {
                put(i, other.cells[i]);
            }
        }

        void makeFrom(Shape before, int kind, int a, int b, int c) {
            if (before.empty) {
                allowNone();
                return;
            }
            if (kind == TELLING) {
                tell(before, a, b, c);
                return;
            }
            takeOver(before);
            if (kind == BOUND) {
                bench.note(Bench.SPARE, a == b ? 2 * c : c);
                holdToSpare(a, b);
            } else {
                scatter(a, b, c);
            }
        }

        /** What xi's bounds said of the others stays, since the others' cells are as low as can be. */
        void release(int i) {
            if (empty) {
                return;
            }
            for (int p = 2 * i; p <= 2 * i + 1; p++) {
                for (int q = 0; q < TERMS; q++) {
                    put(cell(p, q), q == negation(p) ? 0 : INFINITE);
                }
            }
        }

        /** Keeps the places at which p + q is at most what the spare number says. */
        private void holdToSpare(int p, int q) {
            if (!numbers.isLess(bench.scratch[Bench.SPARE], cells[cell(p, q)])) {
                return;
            }
            put(cell(p, q), bench.scratch[Bench.SPARE]);
            passThrough(p, q);
            if (p != q) {
                passThrough(q, p);
            }
            combineSingles();
            if (empty) {
                allowNone();
            }
        }

        /** What the new value adds up to is what its term added up to before, so nothing is lost. */
        private void tell(Shape before, int variable, int term, int more) {
            empty = false;
            for (int p = 0; p < TERMS; p++) {
                int oldP = oldTerm(p, variable, term);
                int moreP = moreOf(p, variable, more);
                for (int q = 0; q <= p; q++) {
                    int old = cell(oldP, oldTerm(q, variable, term));
                    put(cell(p, q), numbers.sum(before.cells[old], moreP + moreOf(q, variable, more)));
                }
            }
        }

        private static int oldTerm(int p, int variable, int term) {
            if (p / 2 != variable) {
                return p;
            }
            return p % 2 == 0 ? term : negation(term);
        }

        private static int moreOf(int p, int variable, int more) {
            if (p / 2 != variable) {
                return 0;
            }
            return p % 2 == 0 ? more : -more;
        }

        private void scatter(int i, long least, long greatest) {
            release(i);
            put(cell(2 * i, 2 * i), 2 * greatest);
            put(cell(2 * i + 1, 2 * i + 1), -2 * least);
            combineSingles();
        }

        void cutTo(Shape other) {
            if (empty || other.empty) {
                allowNone();
                return;
            }
            for (int i = 0; i < CELLS; i++) {
                bench.loose[i] = true;
                if (numbers.isLess(other.cells[i], cells[i])) {
                    put(i, other.cells[i]);
                }
            }
            close();
            if (empty) {
                allowNone();
            }
        }

        /** Joined with an empty shape, or widened by or from one, a shape stays as it is. */
        private boolean isSettledByEmptiness(Shape other) {
            boolean settled = empty || other.empty;
            if (empty) {
                takeOver(other);
            }
            return settled;
        }

        /** The greater of two cells that are as low as can be is as low as can be for both. */
        void stretchOver(Shape other) {
            if (isSettledByEmptiness(other)) {
                return;
            }
            for (int i = 0; i < CELLS; i++) {
                if (numbers.isLess(cells[i], other.cells[i])) {
                    put(i, other.cells[i]);
                }
            }
        }

        void loosenBy(Shape other) {
            if (isSettledByEmptiness(other)) {
                return;
            }
            for (int i = 0; i < CELLS; i++) {
                bench.loose[i] = numbers.isLess(cells[i], other.cells[i]);
                if (bench.loose[i]) {
                    put(i, INFINITE);
                }
            }
            close();
        }

        boolean isWithin(Shape other) {
            if (empty || other.empty) {
                return empty;
            }
            for (int i = 0; i < CELLS; i++) {
                if (numbers.isLess(other.cells[i], cells[i])) {
                    return false;
                }
            }
            return true;
        }

        long mostOf(int p, int q) {
            if (p != q) {
                return numbers.nearestLong(cells[cell(p, q)]);
            }
            bench.note(Bench.SPARE, numbers.half(cells[cell(p, p)]));
            return numbers.nearestLong(bench.scratch[Bench.SPARE]);
        }

        int countBounds() {
            int count = 0;
            for (int p = 0; p < TERMS; p++) {
                for (int q = p; q < TERMS; q++) {
                    if (q != negation(p) && cells[cell(p, q)] != INFINITE) {
                        count++;
                    }
                }
            }
            return count;
        }

        /** Leaves xi its least value alone, else its greatest, else 0. */
        void settle(int i) {
            int up = cell(2 * i, 2 * i);
            int down = cell(2 * i + 1, 2 * i + 1);
            if (cells[up] == INFINITE && cells[down] == INFINITE) {
                bench.note(Bench.SPARE, 0);
                holdToSpare(2 * i, 2 * i);
            }
            if (cells[down] == INFINITE) {
                bench.note(Bench.SPARE, numbers.negative(cells[up]));
                holdToSpare(2 * i + 1, 2 * i + 1);
            } else {
                bench.note(Bench.SPARE, numbers.negative(cells[down]));
                holdToSpare(2 * i, 2 * i);
            }
        }

        /** Shifts every variable so that its least value is 0; false if one has no least or greatest. */
        boolean shiftToLeast() {
            for (int i = 0; i < VARIABLES; i++) {
                int down = cell(2 * i + 1, 2 * i + 1);
                if (cells[cell(2 * i, 2 * i)] == INFINITE || cells[down] == INFINITE) {
                    return false;
                }
                bench.note(2 * i, numbers.half(cells[down]));
                bench.note(2 * i + 1, numbers.negative(bench.scratch[2 * i]));
            }
            for (int p = 0; p < TERMS; p++) {
                for (int q = 0; q <= p; q++) {
                    put(cell(p, q), numbers.sum(cells[cell(p, q)], bench.scratch[p]));
                    put(cell(p, q), numbers.sum(cells[cell(p, q)], bench.scratch[q]));
                }
            }
            return true;
        }

        /** Lowers what chains of bounds add up to that go through the cell of p and q once. */
        private void passThrough(int p, int q) {
            if (empty || numbers.isSumLess(cells[cell(p, q)], cells[cell(negation(q), negation(p))], 0)) {
                empty = true;
                return;
            }
            for (int i = 0; i < TERMS; i++) {
                bench.note(Bench.SPARE, numbers.sum(cells[cell(i, negation(p))], cells[cell(p, q)]));
                long through = bench.scratch[Bench.SPARE];
                for (int j = 0; j < TERMS && through != INFINITE; j++) {
                    long on = cells[cell(negation(q), j)];
                    if (numbers.isSumLess(through, on, cells[cell(i, j)])) {
                        put(cell(i, j), numbers.sum(through, on));
                    }
                }
            }
        }

        /**
         * Lowers loose cells to what chains of bounds add up to. Stops at the first contradiction,
         * since sums that go round one grow without need.
         */
        private void close() {
            for (int k = 0; k < TERMS && !empty; k++) {
                for (int p = 0; p < TERMS; p++) {
                    for (int q = 0; q < TERMS && cells[cell(p, k)] != INFINITE; q++) {
                        int at = cell(p, q);
                        long to = cells[cell(p, k)];
                        long on = cells[cell(negation(k), q)];
                        if (bench.loose[at] && numbers.isSumLess(to, on, cells[at])) {
                            put(at, numbers.sum(to, on));
                        }
                    }
                }
                findContradiction();
            }
            combineSingles();
        }

        /** The half is rounded down, as whole numbers ask, so that p and p get an even number too. */
        private void combineSingles() {
            if (empty) {
                return;
            }
            for (int p = 0; p < TERMS; p++) {
                bench.note(p, numbers.half(cells[cell(p, p)]));
            }
            for (int p = 0; p < TERMS; p++) {
                for (int q = 0; q <= p && bench.scratch[p] != INFINITE; q++) {
                    if (numbers.isSumLess(bench.scratch[p], bench.scratch[q], cells[cell(p, q)])) {
                        put(cell(p, q), numbers.sum(bench.scratch[p], bench.scratch[q]));
                    }
                }
            }
            findContradiction();
        }

        private void findContradiction() {
            for (int p = 0; p < TERMS; p += 2) {
                if (numbers.isNegative(cells[cell(p, negation(p))])) {
                    empty = true;
                }
            }
        }
    }

    /** Room for limbs: a giant's, the lowest first, or nobody's, and then it leads to the next that is nobody's. */
    private static final class Block {
        private static final int LIMBS = 32;

        final long[] limbs;
        Block next;

        Block() {
            limbs = new long[LIMBS];
        }
    }

    /**
     * A whole number in limbs: the highest one with the sign, neither 0 nor -1, those below it from 0
     * to LIMB_MASK, those above it in its block 0.
     */
    private static final class Giant {
        private static final int FIRST_BLOCKS = 4;

        final long name;
        Block[] blocks;
        int blockCount;
        int length;
        int uses;
        Giant next;

        Giant(long ownName) {
            name = ownName;
            blocks = new Block[FIRST_BLOCKS];
        }

        long limb(int i) {
            return blocks[i / Block.LIMBS].limbs[i % Block.LIMBS];
        }

        long top() {
            return blocks[(length - 1) / Block.LIMBS].limbs[(length - 1) % Block.LIMBS];
        }
    }

    /**
     * Whole numbers of any size, each named by a long: a plain one by itself, and so is INFINITE; a
     * giant, which is too great or too small to be plain, by its name. The document sets no bound to
     * numbers, and runs from what runs before have left make them longer each time. So giants take
     * from one room just the blocks that they need, cells that got them from one another share them,
     * and they give their blocks back when no cell names them any more.
     */
    private static final class Numbers {
        private static final int LIMB_BITS = 60;
        private static final long LIMB_MASK = (1L << LIMB_BITS) - 1;
        private static final long GIANTS = 1L << 62;
        // All that the room of a run holds: if every cell of every shape had a giant of its own, these
        // could have some 200,000 bits each, which is more than any program was found to make in 512 calls.
        private static final int BLOCK_LIMIT = 180000;

        private final Giant[] giants;
        private final Giant plainA;
        private final Giant plainB;
        private final Giant plainC;
        private final long[] zeros;
        private int giantCount;
        private int blockCount;
        private Giant freeGiants;
        private Block freeBlocks;

        Numbers(int giantLimit) {
            giants = new Giant[giantLimit];
            plainA = onePlain();
            plainB = onePlain();
            plainC = onePlain();
            zeros = new long[Block.LIMBS];
            giantCount = 0;
            blockCount = 0;
        }

        private static Giant onePlain() {
            Giant plain = new Giant(0);
            plain.blocks[0] = new Block();
            plain.blockCount = 1;
            plain.length = 1;
            return plain;
        }

        private static boolean isGiant(long number) {
            return number >= GIANTS && number != INFINITE;
        }

        private static boolean isPlain(long sum) {
            return sum >= -LIMB_MASK - 1 && sum <= LIMB_MASK;
        }

        private Giant giant(long name) {
            return giants[(int) (name - GIANTS)];
        }

        /** The number now, which is named from here on where the number before was. */
        long replace(long before, long now) {
            if (isGiant(now)) {
                giant(now).uses++;
            }
            if (isGiant(before)) {
                Giant giant = giant(before);
                giant.uses--;
                if (giant.uses == 0) {
                    shorten(giant, 0);
                }
            }
            return now;
        }

        boolean isNegative(long number) {
            return isGiant(number) ? giant(number).top() < 0 : number < 0;
        }

        boolean isLess(long a, long b) {
            return a != b && isSumLess(a, 0, b);
        }

        /**
         * Goes down from the highest limbs until those below cannot make up for the difference: what
         * they say of a number is less than the limb above counts, and there are three numbers.
         */
        boolean isSumLess(long a, long b, long limit) {
            if (a == INFINITE || b == INFINITE || limit == INFINITE) {
                return a != INFINITE && b != INFINITE;
            }
            if (a < GIANTS && b < GIANTS && limit < GIANTS) {
                return a + b < limit;
            }
            Giant x = read(a, plainA);
            Giant y = read(b, plainB);
            Giant z = read(limit, plainC);
            long above = 0;
            for (int i = Math.max(z.blockCount, Math.max(x.blockCount, y.blockCount)) - 1; i >= 0; i--) {
                long[] xs = limbs(x, i);
                long[] ys = limbs(y, i);
                long[] zs = limbs(z, i);
                for (int at = Block.LIMBS - 1; at >= 0; at--) {
                    above = (above << LIMB_BITS) + xs[at] + ys[at] - zs[at];
                    if (above >= 3 || above <= -3) {
                        return above < 0;
                    }
                }
            }
            return above < 0;
        }

        long sum(long a, long b) {
            if (a == INFINITE || b == INFINITE) {
                return INFINITE;
            }
            if (a < GIANTS && b < GIANTS && isPlain(a + b)) {
                return a + b;
            }
            if (b == 0) {
                return a;
            }
            Giant x = read(a, plainA);
            Giant y = read(b, plainB);
            Giant to = newGiant(Math.max(x.length, y.length) / Block.LIMBS + 1);
            if (to == null) {
                return INFINITE;
            }
            long carry = 0;
            for (int i = 0; i < to.blockCount; i++) {
                carry = addLimbs(to.blocks[i].limbs, limbs(x, i), limbs(y, i), 1, carry);
            }
            return finish(to, carry);
        }

        long negative(long a) {
            if (a == INFINITE) {
                return INFINITE;
            }
            if (a < GIANTS && isPlain(-a)) {
                return -a;
            }
            Giant x = read(a, plainA);
            Giant to = newGiant(x.length / Block.LIMBS + 1);
            if (to == null) {
                return INFINITE;
            }
            long carry = 0;
            for (int i = 0; i < to.blockCount; i++) {
                carry = addLimbs(to.blocks[i].limbs, zeros, limbs(x, i), -1, carry);
            }
            return finish(to, carry);
        }

        /** Rounded down. */
        long half(long a) {
            if (!isGiant(a)) {
                return a == INFINITE ? INFINITE : a >> 1;
            }
            Giant x = giant(a);
            Giant to = newGiant(x.blockCount);
            if (to == null) {
                return INFINITE;
            }
            long sign = x.top() < 0 ? -1 : 0;
            long higher = sign;
            for (int i = to.blockCount - 1; i >= 0; i--) {
                long[] from = x.blocks[i].limbs;
                long[] into = to.blocks[i].limbs;
                for (int at = Block.LIMBS - 1; at >= 0; at--) {
                    long limb = i * Block.LIMBS + at < x.length ? from[at] : sign;
                    into[at] = (limb >> 1 | higher << (LIMB_BITS - 1)) & LIMB_MASK;
                    higher = limb;
                }
            }
            return finish(to, sign);
        }

        long nearestLong(long number) {
            if (!isGiant(number)) {
                return number;
            }
            Giant giant = giant(number);
            long top = giant.top();
            if (giant.length > 2 || top > INFINITE >> LIMB_BITS || top < (-INFINITE - 1) >> LIMB_BITS) {
                return top < 0 ? -INFINITE - 1 : INFINITE;
            }
            return (top << LIMB_BITS) + giant.limb(0);
        }

        /** A giant to read from: the plain number's limb is put into the one that is lent for it. */
        private Giant read(long number, Giant lent) {
            if (isGiant(number)) {
                return giant(number);
            }
            lent.blocks[0].limbs[0] = number;
            return lent;
        }

        private long[] limbs(Giant giant, int i) {
            return i < giant.blockCount ? giant.blocks[i].limbs : zeros;
        }

        private static long addLimbs(long[] to, long[] a, long[] b, int sign, long carried) {
            long carry = carried;
            for (int at = 0; at < Block.LIMBS; at++) {
                carry += a[at] + sign * b[at];
                to[at] = carry & LIMB_MASK;
                carry >>= LIMB_BITS;
            }
            return carry;
        }

        /** Null if there is no room for it. */
        private Giant newGiant(int blocks) {
            Giant giant = freeGiants;
            if (giant != null) {
                freeGiants = giant.next;
            } else if (giantCount < giants.length) {
                giant = new Giant(GIANTS + giantCount);
                giants[giantCount] = giant;
                giantCount++;
            } else {
                return null;
            }
            if (giant.blocks.length < blocks) {
                giant.blocks = new Block[Math.max(blocks, 2 * giant.blocks.length)];
            }
            for (int i = 0; i < blocks; i++) {
                Block block = freeBlocks;
                if (block != null) {
                    freeBlocks = block.next;
                } else if (blockCount < BLOCK_LIMIT) {
                    block = new Block();
                    blockCount++;
                } else {
                    shorten(giant, 0);
                    return null;
                }
                giant.blocks[i] = block;
                giant.blockCount = i + 1;
            }
            return giant;
        }

        /** A giant without blocks is free to become another. */
        private void shorten(Giant giant, int blocks) {
            for (int i = giant.blockCount - 1; i >= blocks; i--) {
                Block block = giant.blocks[i];
                block.next = freeBlocks;
                freeBlocks = block;
            }
            giant.blockCount = blocks;
            if (blocks == 0) {
                giant.next = freeGiants;
                freeGiants = giant;
            }
        }

        /** The number with these limbs and the sign, 0 or -1, above them. */
        private long finish(Giant giant, long sign) {
            int length = giant.blockCount * Block.LIMBS;
            while (length > 1 && giant.limb(length - 1) == (sign & LIMB_MASK)) {
                length--;
            }
            long top = giant.limb(length - 1) + (sign << LIMB_BITS);
            if (length == 1) {
                shorten(giant, 0);
                return top;
            }
            shorten(giant, (length - 1) / Block.LIMBS + 1);
            long[] highest = giant.blocks[giant.blockCount - 1].limbs;
            for (int at = (length - 1) % Block.LIMBS; at < Block.LIMBS; at++) {
                highest[at] = 0;
            }
            highest[(length - 1) % Block.LIMBS] = top;
            giant.length = length;
            return giant.name;
        }
    }
}
