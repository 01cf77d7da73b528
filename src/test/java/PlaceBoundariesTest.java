/** The sentences of promises 13 and 14 that name a boundary case, each on both its sides. */
public final class PlaceBoundariesTest {
    private static final Check CHECK = new Check("PlaceBoundaries");
    private static final int NONE = OctagonDesk.NONE;
    private static final int BOUND = Desks.BOUND;
    private static final int TELLING = Desks.TELLING;
    private static final int ANY = Desks.ANY;
    private static final int MILLION = 1000000;

    public static void main(String[] args) {
        firstLeast();
        firstElseGreatest();
        firstElseZero();
        firstLikewiseAmongThese();
        firstAsWholeNumbers();
        firstOfEmpty();
        firstOfTheShapeAlone();
        placesAround4096();
        placesOfTheBoxNotOfTheShape();
        placesOfGreatProducts();
        placesOfGreatSpreads();
        placesInfinite();
        placesOfEmptyAndNearlyEmpty();
        placesFarFromZero();
        placesCutByBounds();
        CHECK.finish();
    }

    private static void lookAtFirst(OctagonDesk x, int slot, String what, long... due) {
        for (int i = 0; i < due.length; i++) {
            CHECK.due(what + ", x" + i, x.first(slot, i), due[i]);
        }
    }

    private static void firstLeast() {
        CHECK.sentence("x0 has its least value there, if it has one");
        OctagonDesk x = new OctagonDesk();
        x.act(0, ANY, 0, -4, 9);
        lookAtFirst(x, 0, "least and greatest", -4, 0, 0, 0, 0, 0);
        x.clear(0);
        x.act(0, BOUND, 1, 1, 4);
        lookAtFirst(x, 0, "least alone", -4, 0, 0, 0, 0, 0);
        x.clear(0);
        x.act(0, BOUND, 11, 11, -4);
        lookAtFirst(x, 0, "of the last one", 0, 0, 0, 0, 0, 4);
        Desks.onePlace(x, 0, 6, -5, 4, -3, 2, -1);
        lookAtFirst(x, 0, "one place", 6, -5, 4, -3, 2, -1);
    }

    private static void firstElseGreatest() {
        CHECK.sentence("else its greatest, if it has one");
        OctagonDesk x = new OctagonDesk();
        x.act(0, BOUND, 0, 0, 4);
        lookAtFirst(x, 0, "greatest above 0", 4, 0, 0, 0, 0, 0);
        x.act(0, BOUND, 0, 0, -4);
        lookAtFirst(x, 0, "greatest below 0", -4, 0, 0, 0, 0, 0);
        x.act(0, BOUND, 1, 1, MILLION);
        lookAtFirst(x, 0, "a least, too", -MILLION, 0, 0, 0, 0, 0);
        x.clear(0);
        x.act(0, BOUND, 10, 10, 4);
        lookAtFirst(x, 0, "of the last one", 0, 0, 0, 0, 0, 4);
    }

    private static void firstElseZero() {
        CHECK.sentence("else 0");
        OctagonDesk x = new OctagonDesk();
        lookAtFirst(x, 0, "all places", 0, 0, 0, 0, 0, 0);
        x.act(0, BOUND, 0, 2, -7);
        x.act(0, BOUND, 0, 3, 9);
        lookAtFirst(x, 0, "x0 has a greatest, x1 a least by it", 1, -8, 0, 0, 0, 0);
        x.clear(0);
        x.act(0, BOUND, 0, 3, -7);
        lookAtFirst(x, 0, "neither has one, x1 is at least x0 + 7", 0, 7, 0, 0, 0, 0);
    }

    private static void firstLikewiseAmongThese() {
        CHECK.sentence("x1 likewise among the PLACES with this x0; and so on");
        OctagonDesk x = new OctagonDesk();
        x.act(0, ANY, 0, 0, 5);
        x.act(0, ANY, 1, 0, 5);
        x.act(0, BOUND, 1, 3, -7);
        lookAtFirst(x, 0, "x0 + x1 >= 7", 2, 5, 0, 0, 0, 0);
        x.act(0, BOUND, 2, 5, 0);
        lookAtFirst(x, 0, "x2 >= x1", 2, 5, 5, 0, 0, 0);
        x.act(0, BOUND, 4, 6, 1);
        lookAtFirst(x, 0, "x2 + x3 <= 1", 2, 5, 5, -4, 0, 0);
        x.act(0, BOUND, 7, 8, -2);
        lookAtFirst(x, 0, "x4 <= x3 - 2", 2, 5, 5, -4, -6, 0);
        x.act(0, BOUND, 9, 11, 3);
        lookAtFirst(x, 0, "x4 + x5 >= -3", 2, 5, 5, -4, -6, 3);
        x.clear(1);
        x.act(1, BOUND, 0, 0, 3);
        x.act(1, BOUND, 0, 3, 0);
        x.act(1, BOUND, 2, 2, 8);
        lookAtFirst(x, 1, "x0's greatest, then x1's least with it", 3, 3, 0, 0, 0, 0);
    }

    /** Least 1/2 is least 1, greatest -1/2 is greatest -1. */
    private static void firstAsWholeNumbers() {
        CHECK.sentence("xi of the first PLACE (a place of whole numbers)");
        OctagonDesk x = new OctagonDesk();
        x.act(0, BOUND, 1, 3, -1);
        x.act(0, BOUND, 1, 2, 0);
        lookAtFirst(x, 0, "x0 >= 1/2", 1, 0, 0, 0, 0, 0);
        x.act(1, BOUND, 0, 2, -1);
        x.act(1, BOUND, 0, 3, 0);
        lookAtFirst(x, 1, "x0 <= -1/2", -1, -1, 0, 0, 0, 0);
    }

    private static void firstOfEmpty() {
        CHECK.sentence("IllegalState: it is EMPTY (first)");
        OctagonDesk x = new OctagonDesk();
        Desks.onePlace(x, 0, 5);
        lookAtFirst(x, 0, "one place", 5, 0);
        x.act(0, BOUND, 0, 0, 4);
        CHECK.badState("its place gone", () -> x.first(0, 0));
        for (int i = 0; i < 6; i++) {
            int at = i;
            Desks.makeEmpty(x, 0, i % Desks.WAYS_TO_EMPTY);
            CHECK.badState("no place, x" + i, () -> x.first(0, at));
        }
        CHECK.badArgument("no place, no variable -1", () -> x.first(0, -1));
        CHECK.badArgument("no place, no variable 6", () -> x.first(0, 6));
        x.clear(0);
        CHECK.badArgument("no variable -1", () -> x.first(0, -1));
        CHECK.badArgument("no variable 6", () -> x.first(0, 6));
        CHECK.due("variable 5", x.first(0, 5), 0);
    }

    private static void firstOfTheShapeAlone() {
        CHECK.sentence("xi of the first PLACE (and the SHAPE stays)");
        OctagonDesk x = new OctagonDesk();
        x.act(0, ANY, 0, 1, 2);
        x.act(0, ANY, 1, 3, 4);
        x.copy(1, 0);
        lookAtFirst(x, 0, "two by two", 1, 3, 0, 0, 0, 0);
        lookAtFirst(x, 0, "once more", 1, 3, 0, 0, 0, 0);
        CHECK.due("as it was", Desks.same(x, 0, 1), true);
    }

    /** Fills a slot with a box of the sides told, from 0 on. */
    private static OctagonDesk box(int... sides) {
        OctagonDesk x = new OctagonDesk();
        for (int i = 0; i < 6; i++) {
            x.act(0, ANY, i, 0, (i < sides.length ? sides[i] : 1) - 1);
        }
        return x;
    }

    private static void placesAround4096() {
        CHECK.sentence("NONE if the product of how many values each variable has .. is above 4096");
        CHECK.due("4095 in one", box(4095).places(0), 4095);
        CHECK.due("4096 in one", box(4096).places(0), 4096);
        CHECK.due("4097 in one", box(4097).places(0), NONE);
        CHECK.due("4096 in the last one", box(1, 1, 1, 1, 1, 4096).places(0), 4096);
        CHECK.due("4097 in the last one", box(1, 1, 1, 1, 1, 4097).places(0), NONE);
        CHECK.due("64 times 64", box(64, 64).places(0), 4096);
        CHECK.due("17 times 241", box(17, 1, 241).places(0), NONE);
        CHECK.due("63 times 65", box(63, 65).places(0), 4095);
        CHECK.due("4 in each", box(4, 4, 4, 4, 4, 4).places(0), 4096);
        CHECK.due("4, and 5 in the last one", box(4, 4, 4, 4, 4, 5).places(0), NONE);
        CHECK.due("4, and 3 in the last one", box(4, 4, 4, 4, 4, 3).places(0), 3072);
        CHECK.due("2 times 2048", box(1, 2048, 1, 1, 2).places(0), 4096);
        CHECK.due("2 times 2049", box(1, 2049, 1, 1, 2).places(0), NONE);
    }

    private static void placesOfTheBoxNotOfTheShape() {
        CHECK.sentence("how many values each variable has (from its least to its greatest)");
        OctagonDesk x = box(64);
        x.act(0, TELLING, 1, 0, 0);
        CHECK.due("64 times 64, but 64 places", x.places(0), 64);
        x.act(0, TELLING, 2, 0, 0);
        CHECK.due("64 times 64 times 64, but 64 places", x.places(0), NONE);
        x = box(65);
        x.act(0, TELLING, 1, 1, 3);
        CHECK.due("65 times 65, but 65 places", x.places(0), NONE);
        x.act(0, BOUND, 0, 0, 63);
        CHECK.due("64 times 64 again", x.places(0), 64);
        x = box(100, 100);
        CHECK.due("100 times 100", x.places(0), NONE);
        x.act(0, BOUND, 0, 2, 63);
        CHECK.due("64 times 64 by x0 + x1 <= 63", x.places(0), 2080);
        x.act(0, BOUND, 1, 3, -63);
        CHECK.due("and >= 63", x.places(0), 64);
    }

    private static void placesOfGreatProducts() {
        CHECK.sentence("the product .. is above 4096 (and past what an int or a long holds)");
        int side = 1 << 16;
        CHECK.due("2^16 twice", box(side, side).places(0), NONE);
        CHECK.due("2^16 three times", box(side, side, side).places(0), NONE);
        CHECK.due("2^16 four times", box(side, side, side, side).places(0), NONE);
        CHECK.due("2^16 four times, the last ones", box(1, 1, side, side, side, side).places(0), NONE);
        CHECK.due("2^12, five times 2^4", box(4096, 16, 16, 16, 16, 16).places(0), NONE);
        CHECK.due("2^12 six times", box(4096, 4096, 4096, 4096, 4096, 4096).places(0), NONE);
        OctagonDesk x = new OctagonDesk();
        for (int i = 0; i < 6; i++) {
            x.act(0, ANY, i, -MILLION, MILLION);
        }
        CHECK.due("2000001 six times", x.places(0), NONE);
    }

    /** x1 is from x0 to x0 + 2^bits, so that how many values it has passes what an int or a long holds. */
    private static void placesOfGreatSpreads() {
        CHECK.sentence("how many values each variable has (past what an int or a long holds)");
        for (int bits : new int[] {31, 32, 33, 61, 62, 63, 64, 65, 66}) {
            for (int more = -1; more <= 0; more++) {
                OctagonDesk x = new OctagonDesk();
                Desks.makeDifference(x, 1 << 19, bits - 19);
                x.act(0, TELLING, 1, 2, more);
                x.copy(2, 0);
                x.act(2, TELLING, 1, 0, 0);
                x.join(2, 0, 2);
                for (int i = 2; i < 6; i++) {
                    x.act(2, ANY, i, 0, 0);
                }
                x.act(2, BOUND, 0, 0, 1);
                x.act(2, BOUND, 1, 1, 0);
                CHECK.due("2^" + bits + " + " + more + " values", x.places(2), NONE);
                x.meet(3, 0, 2);
                CHECK.due("x1 is just x0 + 2^" + bits + " + " + more, x.places(3), 2);
            }
        }
    }

    private static void placesInfinite() {
        CHECK.sentence("NONE if the product .. is .. INFINITE");
        for (int i = 0; i < 6; i++) {
            OctagonDesk x = box(1);
            CHECK.due("one place", x.places(0), 1);
            x.forget(0, i);
            CHECK.due("x" + i + " may be anything", x.places(0), NONE);
            x.copy(1, 0);
            x.act(0, BOUND, 2 * i, 2 * i, 2);
            CHECK.due("x" + i + " without a least", x.places(0), NONE);
            x.act(0, BOUND, 2 * i + 1, 2 * i + 1, 0);
            CHECK.due("x" + i + " from 0 to 2", x.places(0), 3);
            x.act(1, BOUND, 2 * i + 1, 2 * i + 1, 0);
            CHECK.due("x" + i + " without a greatest", x.places(1), NONE);
        }
        CHECK.due("all places", new OctagonDesk().places(0), NONE);
    }

    private static void placesOfEmptyAndNearlyEmpty() {
        CHECK.sentence("How many PLACES (none, and one)");
        OctagonDesk x = new OctagonDesk();
        for (int how = 0; how < Desks.WAYS_TO_EMPTY; how++) {
            Desks.makeEmpty(x, 0, how);
            CHECK.due("EMPTY", x.places(0), 0);
        }
        Desks.onePlace(x, 2, 1, 2, 3, 4, 5, 6);
        CHECK.due("one", x.places(2), 1);
        x.act(2, BOUND, 11, 11, -7);
        CHECK.due("one less", x.places(2), 0);
        x.act(3, ANY, 0, 0, MILLION);
        x.act(3, BOUND, 0, 0, -1);
        CHECK.due("EMPTY, though the others may be anything", x.places(3), 0);
    }

    private static void placesFarFromZero() {
        CHECK.sentence("How many PLACES (far from 0)");
        OctagonDesk x = new OctagonDesk();
        for (int i = 0; i < 6; i++) {
            x.act(0, ANY, i, MILLION - 3, MILLION);
            x.act(1, ANY, i, -MILLION, -MILLION + 3);
            x.act(2, ANY, i, -2, 1);
        }
        CHECK.due("at 1000000", x.places(0), 4096);
        CHECK.due("at -1000000", x.places(1), 4096);
        CHECK.due("at 0", x.places(2), 4096);
        x.act(0, BOUND, 0, 2, 2 * MILLION - MILLION);
        CHECK.due("cut off", x.places(0), 0);
        x.act(1, BOUND, 1, 3, MILLION);
        CHECK.due("cut off", x.places(1), 0);
        x.act(2, BOUND, 0, 2, -4);
        CHECK.due("a corner is left", x.places(2), 256);
    }

    /** Each way in which two variables can bound each other, cut by one place more each time. */
    private static void placesCutByBounds() {
        CHECK.sentence("How many PLACES (at which all BOUNDS hold)");
        int[] due = {1, 3, 6, 10, 13, 15, 16, 16};
        int[][] pairs = {{0, 2}, {0, 3}, {1, 2}, {1, 3}, {2, 10}, {4, 9}, {7, 10}, {11, 3}};
        for (int[] pair : pairs) {
            OctagonDesk x = new OctagonDesk();
            for (int i = 0; i < 6; i++) {
                boolean used = i == pair[0] / 2 || i == pair[1] / 2;
                x.act(0, ANY, i, used ? -1 : 9, used ? 2 : 9);
            }
            int odd = pair[0] % 2 + pair[1] % 2;
            for (int c = 7; c >= 0; c--) {
                x.act(0, BOUND, pair[0], pair[1], c - 2 - odd);
                CHECK.due("terms " + pair[0] + ", " + pair[1] + ", step " + c, x.places(0), due[c]);
            }
            CHECK.due("and none", x.act(0, BOUND, pair[0], pair[1], -3 - odd), false);
        }
    }
}
