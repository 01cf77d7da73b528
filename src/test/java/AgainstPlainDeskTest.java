import java.util.Map;
import java.util.TreeMap;

/** Long runs of mixed calls against a desk that keeps tables of mosts in the slowest and plainest way. */
public final class AgainstPlainDeskTest {
    private static final Check CHECK = new Check("AgainstPlainDesk");
    private static final int ENOUGH_SEEDS = 300;

    private AgainstPlainDeskTest() {
    }

    public static void main(String[] args) {
        int seeds = args.length > 0 ? Integer.parseInt(args[0]) : 400;
        Map<String, Integer> tally = new TreeMap<>();
        for (int seed = 1; seed <= seeds && CHECK.isClean(); seed++) {
            Dice dice = new Dice(seed);
            BothDesks desks = new BothDesks(CHECK, "seed " + seed, BothDesks.tables());
            int[] used = dice.someOf(6, dice.from(1, 6));
            int reach = dice.oneIn(6) ? 1000000 : dice.from(1, 12);
            new MixedCalls(dice, desks, used, reach, true).go(dice.oneIn(2));
            desks.addTo(tally);
        }
        if (CHECK.isClean() && seeds >= ENOUGH_SEEDS) {
            lookAtTally(tally);
        }
        CHECK.finish();
    }

    /** The dice would be of little use, did they not lead to each of these again and again. */
    private static void lookAtTally(Map<String, Integer> tally) {
        for (String often : new String[] {"act false", "meet false", "isEmpty true", "inside true", "inside false",
            "most IllegalStateException", "first IllegalStateException", "step IllegalStateException",
            "bounds -1", "places 0", "places -1", "run -1", "run 1", "run 5", "take false", "take true"}) {
            CHECK.due(often + " is seen often", tally.getOrDefault(often, 0) >= 20, true);
        }
        for (String name : new String[] {"act", "clear", "copy", "meet", "join", "widen", "forget", "isEmpty",
            "most", "inside", "bounds", "first", "places", "step", "run", "take"}) {
            CHECK.due(name + " is refused", tally.containsKey(name + " IllegalArgumentException"), true);
        }
    }
}
