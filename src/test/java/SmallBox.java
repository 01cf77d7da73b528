import java.util.ArrayList;
import java.util.List;

/** Places of x0 and x1 alone, the other variables being anything; what is due is seen by looking at each. */
final class SmallBox {
    final List<int[]> places = new ArrayList<>();

    static SmallBox of(int least, int greatest) {
        SmallBox box = new SmallBox();
        for (int i = least; i <= greatest; i++) {
            for (int j = least; j <= greatest; j++) {
                box.places.add(new int[] {i, j});
            }
        }
        return box;
    }

    static void fill(OctagonDesk x, int slot, int least, int greatest) {
        x.clear(slot);
        x.act(slot, Desks.ANY, 0, least, greatest);
        x.act(slot, Desks.ANY, 1, least, greatest);
    }

    static int value(int[] place, int term) {
        return term % 2 == 0 ? place[term / 2] : -place[term / 2];
    }

    static int sum(int[] place, int p, int q) {
        return p == q ? value(place, p) : value(place, p) + value(place, q);
    }

    SmallBox held(int p, int q, int c) {
        SmallBox held = new SmallBox();
        for (int[] place : places) {
            if (sum(place, p, q) <= c) {
                held.places.add(place);
            }
        }
        return held;
    }

    SmallBox told(int a, int term, int more) {
        SmallBox told = new SmallBox();
        for (int[] place : places) {
            int[] then = place.clone();
            then[a] = value(place, term) + more;
            told.places.add(then);
        }
        return told;
    }

    SmallBox scattered(int a, int least, int greatest) {
        SmallBox scattered = new SmallBox();
        for (int[] place : places) {
            for (int value = least; value <= greatest; value++) {
                int[] then = place.clone();
                then[a] = value;
                scattered.places.add(then);
            }
        }
        return scattered;
    }

    SmallBox and(SmallBox other) {
        SmallBox both = new SmallBox();
        both.places.addAll(places);
        both.places.addAll(other.places);
        return both;
    }

    int most(int p, int q) {
        int most = Integer.MIN_VALUE;
        for (int[] place : places) {
            most = Math.max(most, sum(place, p, q));
        }
        return most;
    }

    /** In the form of Desks.text. */
    String text() {
        List<String> text = new ArrayList<>();
        for (int p = 0; p < 4; p++) {
            for (int q = p; q < 4; q++) {
                if (q != (p ^ 1)) {
                    text.add(Desks.name(p, q) + "<=" + most(p, q));
                }
            }
        }
        return places.isEmpty() ? "EMPTY" : String.join(", ", text);
    }
}
