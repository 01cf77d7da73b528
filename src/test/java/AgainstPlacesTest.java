/** Long runs of mixed calls against a desk that goes through the places of its shapes one by one. */
public final class AgainstPlacesTest {
    private static final Check CHECK = new Check("AgainstPlaces");
    private static final int[] VARIABLES = {1, 2, 2, 2, 2, 3, 2, 2, 2, 3};

    private AgainstPlacesTest() {
    }

    public static void main(String[] args) {
        int seeds = args.length > 0 ? Integer.parseInt(args[0]) : 100;
        for (int seed = 1; seed <= seeds && CHECK.isClean(); seed++) {
            Dice dice = new Dice(9000 + seed);
            int[] used = dice.someOf(6, VARIABLES[seed % VARIABLES.length]);
            BothDesks desks = new BothDesks(CHECK, "seed " + seed, BothDesks.places(used));
            new MixedCalls(dice, desks, used, dice.from(1, 3), false).go(dice.oneIn(2));
        }
        CHECK.finish();
    }
}
