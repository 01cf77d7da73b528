/** Long runs of calls thrown by dice, each answer compared with that of the plain desk. */
public final class AgainstPlainDeskTest {
    private static final Check CHECK = new Check("AgainstPlainDesk");

    private final Dice dice;
    private final BothDesks desks;
    private final int variables;
    private final int reach;

    private AgainstPlainDeskTest(int seed) {
        dice = new Dice(seed);
        desks = new BothDesks(CHECK, "seed " + seed);
        variables = dice.from(1, 6);
        reach = dice.oneIn(6) ? 1000000 : dice.from(1, 12);
    }

    public static void main(String[] args) {
        int seeds = args.length > 0 ? Integer.parseInt(args[0]) : 500;
        for (int seed = 1; seed <= seeds && CHECK.isClean(); seed++) {
            new AgainstPlainDeskTest(seed).go();
        }
        CHECK.finish();
    }

    private void go() {
        boolean programs = dice.oneIn(2);
        for (int slot = 0; slot < 6; slot++) {
            fill(slot);
        }
        while (desks.callsLeft() > 0) {
            int sort = dice.below(programs ? 20 : 19);
            if (sort < 9) {
                change();
            } else if (sort < 18) {
                ask();
            } else if (sort == 18) {
                wrongCall();
            } else {
                program();
            }
        }
    }

    /** Variables that the run does not use get one value at times, so that places can be counted. */
    private void fill(int slot) {
        boolean countable = dice.oneIn(2);
        for (int i = 0; i < 6; i++) {
            if (countable || i < variables && dice.oneIn(2)) {
                any("act", slot, i, i < variables ? dice.below(6) : 0);
            }
        }
    }

    private String any(String name, int where, int variable, int more) {
        int least = number();
        return desks.call(name, where, 2, variable, least, Math.min(1000000, least + more));
    }

    private int slot() {
        return dice.below(6);
    }

    private int variable() {
        return dice.below(variables);
    }

    private int term() {
        return dice.below(2 * variables);
    }

    private int number() {
        return dice.oneIn(30) ? (dice.oneIn(2) ? 1000000 : -1000000) : dice.from(-reach, reach);
    }

    private void change() {
        int slot = slot();
        switch (dice.below(12)) {
            case 0: desks.call("copy", slot, slot()); break;
            case 1: mended(slot, desks.call("meet", slot, slot(), slot())); break;
            case 2: desks.call("join", slot, slot(), slot()); break;
            case 3: desks.call("widen", slot, slot(), slot()); break;
            case 4: desks.call("forget", slot, variable()); break;
            case 5: desks.call("clear", slot); break;
            default: mended(slot, action("act", slot)); break;
        }
    }

    /** Most slots would soon be empty for good. */
    private void mended(int slot, String answer) {
        if (answer.equals("false") && !dice.oneIn(4)) {
            desks.call("clear", slot);
            fill(slot);
        }
    }

    private String action(String name, int where) {
        switch (dice.below(4)) {
            case 0: return desks.call(name, where, 1, variable(), term(), number());
            case 1: return any(name, where, variable(), dice.below(4));
            default: return bound(name, where);
        }
    }

    private String bound(String name, int where) {
        int p = term();
        int q = term();
        int c = dice.oneIn(2) ? Math.abs(number()) : number();
        return desks.call(name, where, 0, p, (p ^ 1) == q ? p : q, c);
    }

    private void ask() {
        int slot = slot();
        switch (dice.below(8)) {
            case 0: desks.call("isEmpty", slot); break;
            case 1: desks.call("inside", slot, slot()); break;
            case 2: desks.call("bounds", slot); break;
            case 3: desks.call("first", slot, variable()); break;
            case 4: desks.call("places", slot); break;
            default: desks.call("most", slot, term(), term()); break;
        }
    }

    private void wrongCall() {
        int slot = dice.oneIn(2) ? dice.from(-1, 6) : slot();
        int other = dice.from(-1, 6);
        switch (dice.below(11)) {
            case 0: desks.call("copy", slot, other); break;
            case 1: desks.call("meet", slot, slot(), other); break;
            case 2: desks.call("join", other, slot, slot()); break;
            case 3: desks.call("widen", slot(), other, slot); break;
            case 4: desks.call("forget", slot, other); break;
            case 5: desks.call("first", slot, other); break;
            case 6: desks.call("most", slot, dice.from(-1, 12), dice.from(-1, 12)); break;
            case 7: desks.call("inside", slot, other); break;
            case 8: desks.call("take", slot, dice.from(-1, 8)); break;
            case 9: desks.call("act", slot, dice.from(-1, 3), dice.from(-1, 12), dice.from(-1, 12), wild()); break;
            default: desks.call("step", dice.from(-2, 65), dice.from(-1, 3), dice.from(-1, 6), wild(), wild()); break;
        }
    }

    private int wild() {
        return dice.oneIn(3) ? dice.from(999999, 1000002) * (dice.oneIn(2) ? 1 : -1) : number();
    }

    private void program() {
        int points = dice.from(1, dice.oneIn(3) ? 8 : 4);
        if (!dice.oneIn(4)) {
            desks.call("erase");
        }
        for (int steps = dice.from(1, 11); steps > 0; steps--) {
            action("step", 8 * dice.below(points) + dice.below(points));
        }
        desks.call("run", slot());
        for (int point = 0; point < points; point++) {
            int slot = slot();
            desks.call("take", slot, point);
            desks.call("most", slot, term(), term());
            desks.call("bounds", slot);
        }
    }
}
