import java.util.ArrayList;
import java.util.HashSet;
import java.util.List;
import java.util.Set;

/**
 * Small bounded shapes kept as plain lists of their places in x0, x1, x2 (the other variables are 0),
 * so that nothing that is known of octagons is needed to say what is due.
 */
public final class PointSetTest {
    private static final Check CHECK = new Check("PointSet");
    private static final int USED = 3;
    private static final int SIDE = 5;

    private final Dice dice;
    private final String name;
    private final OctagonDesk desk = new OctagonDesk();
    private List<int[]> places = new ArrayList<>();

    private PointSetTest(int seed) {
        dice = new Dice(7000 + seed);
        name = "seed " + seed + " ";
    }

    public static void main(String[] args) {
        int seeds = args.length > 0 ? Integer.parseInt(args[0]) : 400;
        for (int seed = 1; seed <= seeds && CHECK.isClean(); seed++) {
            new PointSetTest(seed).go();
        }
        CHECK.finish();
    }

    private void go() {
        fillBox(0);
        places = allPlaces();
        for (int i = 0; i < 8; i++) {
            change();
            look(0, places);
        }
        joinWithAnother();
    }

    private void fillBox(int slot) {
        for (int i = 0; i < 6; i++) {
            desk.act(slot, 2, i, 0, i < USED ? SIDE : 0);
        }
    }

    private static List<int[]> allPlaces() {
        List<int[]> all = new ArrayList<>();
        for (int i = 0; i < (SIDE + 1) * (SIDE + 1) * (SIDE + 1); i++) {
            all.add(new int[] {i % (SIDE + 1), i / (SIDE + 1) % (SIDE + 1), i / (SIDE + 1) / (SIDE + 1)});
        }
        return all;
    }

    private void change() {
        int kind = dice.below(6);
        if (kind == 4) {
            int a = dice.below(USED);
            int b = dice.below(2 * USED);
            int c = dice.from(-3, 3);
            places = told(places, a, b, c);
            CHECK.due(name + "act(0, 1, " + a + ", " + b + ", " + c + ")", desk.act(0, 1, a, b, c), !places.isEmpty());
        } else if (kind == 5) {
            int a = dice.below(USED);
            int b = dice.from(-3, 3);
            int c = b + dice.below(4);
            places = scattered(places, a, b, c);
            CHECK.due(name + "act(0, 2, " + a + ", " + b + ", " + c + ")", desk.act(0, 2, a, b, c), !places.isEmpty());
        } else {
            int p = dice.below(2 * USED);
            int q = dice.below(2 * USED);
            bound(p, p == (q ^ 1) ? p : q, dice.from(-4, 7));
        }
    }

    private void bound(int p, int q, int c) {
        List<int[]> kept = new ArrayList<>();
        for (int[] place : places) {
            if (sum(place, p, q) <= c) {
                kept.add(place);
            }
        }
        places = kept;
        CHECK.due(name + "act(0, 0, " + p + ", " + q + ", " + c + ")", desk.act(0, 0, p, q, c), !places.isEmpty());
    }

    private static int value(int[] place, int term) {
        return term % 2 == 0 ? place[term / 2] : -place[term / 2];
    }

    private static int sum(int[] place, int p, int q) {
        return p == q ? value(place, p) : value(place, p) + value(place, q);
    }

    private static List<int[]> told(List<int[]> before, int a, int b, int c) {
        List<int[]> after = new ArrayList<>();
        for (int[] place : before) {
            int[] next = place.clone();
            next[a] = value(place, b) + c;
            after.add(next);
        }
        return after;
    }

    private static List<int[]> scattered(List<int[]> before, int a, int b, int c) {
        List<int[]> after = new ArrayList<>();
        for (int value = b; value <= c; value++) {
            for (int[] place : before) {
                int[] next = place.clone();
                next[a] = value;
                after.add(next);
            }
        }
        return after;
    }

    private static int distinct(List<int[]> places) {
        Set<List<Integer>> seen = new HashSet<>();
        for (int[] place : places) {
            seen.add(List.of(place[0], place[1], place[2]));
        }
        return seen.size();
    }

    private static long most(List<int[]> places, int p, int q) {
        long most = Long.MIN_VALUE;
        for (int[] place : places) {
            most = Math.max(most, sum(place, p, q));
        }
        return most;
    }

    private void look(int slot, List<int[]> due) {
        CHECK.due(name + "isEmpty(" + slot + ")", desk.isEmpty(slot), due.isEmpty());
        if (due.isEmpty()) {
            CHECK.due(name + "places(" + slot + ")", desk.places(slot), 0);
            return;
        }
        CHECK.due(name + "bounds(" + slot + ")", desk.bounds(slot), 72);
        for (int p = 0; p < 2 * USED; p++) {
            for (int q = 0; q < 2 * USED; q++) {
                if (p != (q ^ 1)) {
                    CHECK.due(name + "most(" + slot + ", " + p + ", " + q + ")", desk.most(slot, p, q), most(due, p, q));
                }
            }
        }
        int box = 1;
        for (int i = 0; i < USED; i++) {
            box *= (int) (most(due, 2 * i, 2 * i) + most(due, 2 * i + 1, 2 * i + 1) + 1);
        }
        CHECK.due(name + "places(" + slot + ")", desk.places(slot), box > 4096 ? -1 : distinct(due));
        lookAtFirst(slot, due);
    }

    private void lookAtFirst(int slot, List<int[]> due) {
        int[] first = due.get(0);
        for (int[] place : due) {
            if (java.util.Arrays.compare(place, first) < 0) {
                first = place;
            }
        }
        for (int i = 0; i < 6; i++) {
            CHECK.due(name + "first(" + slot + ", " + i + ")", desk.first(slot, i), i < USED ? first[i] : 0);
        }
    }

    /** The join holds the places of a cube round both at which no bound is broken that both keep. */
    private void joinWithAnother() {
        desk.copy(1, 0);
        List<int[]> others = places;
        desk.clear(0);
        fillBox(0);
        places = allPlaces();
        for (int i = 0; i < 5; i++) {
            change();
        }
        List<int[]> both = new ArrayList<>(places);
        both.addAll(others);
        desk.join(2, 0, 1);
        List<int[]> joined = new ArrayList<>();
        int reach = 0;
        for (int p = 0; p < 2 * USED && !both.isEmpty(); p++) {
            reach = (int) Math.max(reach, most(both, p, p));
        }
        for (int i = 0; i < 2 * reach + 1; i++) {
            for (int j = 0; j < 2 * reach + 1; j++) {
                for (int k = 0; k < 2 * reach + 1; k++) {
                    addIfHeld(joined, both, new int[] {i - reach, j - reach, k - reach});
                }
            }
        }
        look(2, joined);
        CHECK.due(name + "inside(0, 2)", desk.inside(0, 2), true);
        CHECK.due(name + "inside(1, 2)", desk.inside(1, 2), true);
        CHECK.due(name + "inside(2, 0)", desk.inside(2, 0), distinct(joined) == distinct(places));
    }

    private static void addIfHeld(List<int[]> joined, List<int[]> both, int[] place) {
        for (int p = 0; p < 2 * USED; p++) {
            for (int q = 0; q < 2 * USED; q++) {
                if (p != (q ^ 1) && sum(place, p, q) > most(both, p, q)) {
                    return;
                }
            }
        }
        joined.add(place);
    }
}
