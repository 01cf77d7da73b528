/** The same throws in every run of the tests. */
final class Dice {
    private long state;

    Dice(long seed) {
        state = seed * 0x9E3779B97F4A7C15L + 0x632BE59BD9B4E019L;
    }

    /** A number from 0 to sides - 1. */
    int below(int sides) {
        state = state * 6364136223846793005L + 1442695040888963407L;
        return (int) Math.floorMod(state >>> 33, (long) sides);
    }

    int from(int least, int greatest) {
        return least + below(greatest - least + 1);
    }

    boolean oneIn(int sides) {
        return below(sides) == 0;
    }

    /** So many of the numbers below the limit, in their order. */
    int[] someOf(int limit, int count) {
        int[] some = new int[count];
        int at = 0;
        for (int i = 0; i < limit && at < count; i++) {
            if (below(limit - i) < count - at) {
                some[at] = i;
                at++;
            }
        }
        return some;
    }
}
