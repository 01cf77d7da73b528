/**
 * Up to 512 calls of every sort on one object, thrown by dice: slots that are named more than once,
 * empty shapes, wrong arguments, steps told and erased between runs, runs that fail.
 */
final class MixedCalls {
    private final Dice dice;
    private final BothDesks desks;
    private final int[] used;
    private final int reach;
    private final boolean millions;

    /** Bounds are told of the used variables; the others may be anything, or are 0. */
    MixedCalls(Dice dice, BothDesks desks, int[] used, int reach, boolean millions) {
        this.dice = dice;
        this.desks = desks;
        this.used = used;
        this.reach = reach;
        this.millions = millions;
    }

    void go(boolean programs) {
        for (int slot = 0; slot < 6; slot++) {
            fill(slot);
        }
        goOn(programs);
    }

    /** From slots as they are. */
    void goOn(boolean programs) {
        // Calls that the plain desk does not make take none of the calls left, so tries are counted, too.
        for (int tries = 0; tries < 3000 && desks.callsLeft() > 0; tries++) {
            int sort = dice.below(programs ? 20 : 19);
            if (sort < 9) {
                change();
            } else if (sort < 18) {
                ask();
            } else if (sort == 18) {
                wrongCall();
            } else {
                program();
            }
        }
    }

    /** The other variables get one value at times, so that places can be counted. */
    private void fill(int slot) {
        boolean countable = dice.oneIn(2);
        for (int i = 0; i < 6 && countable; i++) {
            desks.call("act", slot, 2, i, 0, 0);
        }
        for (int variable : used) {
            if (countable || dice.oneIn(2)) {
                any("act", slot, variable, dice.below(6));
            }
        }
    }

    private String any(String name, int where, int variable, int more) {
        int least = number();
        return desks.call(name, where, 2, variable, least, Math.min(1000000, least + more));
    }

    private int slot() {
        return dice.below(6);
    }

    private int slotAgain(int slot) {
        return dice.oneIn(4) ? slot : slot();
    }

    private int variable() {
        return used[dice.below(used.length)];
    }

    private int term() {
        return 2 * variable() + dice.below(2);
    }

    private int number() {
        return millions && dice.oneIn(30) ? (dice.oneIn(2) ? 1000000 : -1000000) : dice.from(-reach, reach);
    }

    private void change() {
        int slot = slot();
        int a = slotAgain(slot);
        switch (dice.below(12)) {
            case 0: desks.call("copy", slot, a); break;
            case 1: mended(slot, desks.call("meet", slot, a, slotAgain(a))); break;
            case 2: desks.call("join", slot, a, slotAgain(a)); break;
            case 3: desks.call("widen", slot, a, slotAgain(a)); break;
            case 4: desks.call("forget", slot, dice.oneIn(5) ? dice.below(6) : variable()); break;
            case 5: desks.call("clear", slot); break;
            default: mended(slot, action("act", slot)); break;
        }
    }

    /** Most slots would soon be empty for good, or beyond what the plain desk sees. */
    private void mended(int slot, String answer) {
        if (answer.equals("false") && !dice.oneIn(4) || answer.equals(BothDesks.NOT_MADE)) {
            desks.call("clear", slot);
            fill(slot);
        }
    }

    private String action(String name, int where) {
        switch (dice.below(4)) {
            case 0: return desks.call(name, where, 1, variable(), term(), number());
            case 1: return any(name, where, variable(), dice.below(4));
            default: return bound(name, where);
        }
    }

    private String bound(String name, int where) {
        int p = term();
        int q = term();
        int c = dice.oneIn(2) ? Math.abs(number()) : number();
        return desks.call(name, where, 0, p, (p ^ 1) == q ? p : q, c);
    }

    private void ask() {
        int slot = slot();
        int any = dice.below(12);
        switch (dice.below(8)) {
            case 0: desks.call("isEmpty", slot); break;
            case 1: desks.call("inside", slot, slotAgain(slot)); break;
            case 2: desks.call("bounds", slot); break;
            case 3: desks.call("first", slot, dice.oneIn(4) ? dice.below(6) : variable()); break;
            case 4: desks.call("places", slot); break;
            default: desks.call("most", slot, term(), dice.oneIn(4) ? any : term()); break;
        }
    }

    private void wrongCall() {
        int slot = dice.oneIn(2) ? dice.from(-1, 6) : slot();
        int bad = dice.oneIn(2) ? -1 : 6;
        switch (dice.below(16)) {
            case 0: desks.call("copy", slot, bad); break;
            case 1: desks.call("meet", slot, slot(), bad); break;
            case 2: desks.call("join", bad, slot, slot()); break;
            case 3: desks.call("widen", slot(), bad, slot); break;
            case 4: desks.call("forget", slot, bad); break;
            case 5: desks.call("first", slot, bad); break;
            case 6: desks.call("most", slot, dice.from(-1, 12), dice.from(-1, 12)); break;
            case 7: desks.call("inside", slot, bad); break;
            case 8: desks.call("take", slot, dice.oneIn(2) ? -1 : 8); break;
            case 9: desks.call("act", slot, dice.from(-1, 3), 12, dice.from(-1, 12), number()); break;
            case 10: desks.call("step", dice.oneIn(2) ? -1 : 64, dice.from(-1, 3), variable(), term(), number()); break;
            case 11: desks.call("step", dice.below(64), dice.from(0, 2), variable(), term(), tooGreat()); break;
            case 12: desks.call("act", slot, dice.below(3), variable(), term(), tooGreat()); break;
            case 13: desks.call("act", slot, 2, variable(), reach + 1, -reach - 1); break;
            case 14: desks.call(dice.oneIn(2) ? "isEmpty" : "places", bad); break;
            default: desks.call(new String[] {"clear", "bounds", "run"}[dice.below(3)], bad); break;
        }
    }

    private int tooGreat() {
        return (1000001 + dice.below(3)) * (dice.oneIn(2) ? 1 : -1);
    }

    private void program() {
        int points = dice.from(1, dice.oneIn(3) ? 8 : 3);
        int slot = slot();
        if (!dice.oneIn(4)) {
            desks.call("erase");
        }
        if (dice.oneIn(4)) {
            tellFoundProgram(slot);
        } else {
            action("step", dice.below(points));
            tellSteps(points, dice.oneIn(6) ? 20 : dice.from(0, 10));
        }
        desks.call("run", slot);
        look(points);
        if (dice.oneIn(2)) {
            between(points);
            look(points);
            desks.call("run", slotAgain(slot));
            look(points);
        }
    }

    private void tellSteps(int points, int count) {
        for (int i = 0; i < count; i++) {
            action("step", 8 * dice.below(points) + dice.below(points));
        }
    }

    /** What was run stays as it was, whatever is told or erased. */
    private void between(int points) {
        if (dice.oneIn(2)) {
            desks.call("erase");
        }
        tellSteps(points, dice.below(4));
        change();
    }

    private void look(int points) {
        for (int i = dice.from(1, points); i > 0; i--) {
            int slot = slot();
            desks.call("take", slot, dice.oneIn(8) ? 7 : dice.below(points));
            desks.call("most", slot, term(), term());
            desks.call("bounds", slot);
        }
    }

    /** With its variables at other places, so that it is another program each time. */
    private void tellFoundProgram(int slot) {
        FoundProgram found = new FoundProgram[] {FoundProgram.thirtyRounds(), FoundProgram.thirtyOneRounds(),
            FoundProgram.endless()}[dice.below(3)];
        if (found.box.length > used.length) {
            return;
        }
        int[] at = shuffled();
        for (int i = 0; i < found.box.length; i++) {
            desks.call("act", slot, 2, at[i], found.box[i][0], found.box[i][1]);
        }
        for (int[] step : found.steps) {
            int a = step[1] == 0 ? termAt(at, step[2]) : at[step[2]];
            int b = step[1] == 2 ? step[3] : termAt(at, step[3]);
            desks.call("step", step[0], step[1], a, b, step[4]);
        }
    }

    private static int termAt(int[] at, int term) {
        return 2 * at[term / 2] + term % 2;
    }

    private int[] shuffled() {
        int[] shuffled = used.clone();
        for (int i = shuffled.length - 1; i > 0; i--) {
            int j = dice.below(i + 1);
            int kept = shuffled[i];
            shuffled[i] = shuffled[j];
            shuffled[j] = kept;
        }
        return shuffled;
    }
}
