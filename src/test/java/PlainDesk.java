import java.math.BigInteger;
import java.util.ArrayList;
import java.util.List;

/** What each call answers by the document, as a text; a call that throws answers the exception's name. */
final class PlainDesk {
    private static final String ARGUMENT = "IllegalArgumentException";
    private static final String STATE = "IllegalStateException";
    private static final BigInteger GREATEST = BigInteger.valueOf(Long.MAX_VALUE);
    private static final BigInteger LEAST = BigInteger.valueOf(Long.MIN_VALUE);

    private final PlainShape[] slots = new PlainShape[6];
    private PlainShape[] left = new PlainShape[8];
    private final List<int[]> steps = new ArrayList<>();

    PlainDesk() {
        for (int i = 0; i < slots.length; i++) {
            slots[i] = PlainShape.allPlaces();
        }
        for (int i = 0; i < left.length; i++) {
            left[i] = PlainShape.noPlaces();
        }
    }

    String call(String name, int[] x) {
        switch (name) {
            case "act": return isSlot(x[0]) && isAction(x[1], x[2], x[3], x[4]) ? act(x) : ARGUMENT;
            case "clear": return isSlot(x[0]) ? put(x[0], PlainShape.allPlaces(), false) : ARGUMENT;
            case "copy": return isSlot(x[0]) && isSlot(x[1]) ? put(x[0], slots[x[1]], false) : ARGUMENT;
            case "meet": return areSlots(x) ? put(x[0], slots[x[1]].meet(slots[x[2]]), true) : ARGUMENT;
            case "join": return areSlots(x) ? put(x[0], slots[x[1]].join(slots[x[2]]), false) : ARGUMENT;
            case "widen": return areSlots(x) ? put(x[0], slots[x[1]].widen(slots[x[2]]), false) : ARGUMENT;
            case "forget": return isSlot(x[0]) && isVariable(x[1])
                ? put(x[0], slots[x[0]].forget(x[1]), false) : ARGUMENT;
            case "isEmpty": return isSlot(x[0]) ? "" + slots[x[0]].isEmpty() : ARGUMENT;
            case "most": return isSlot(x[0]) && areTerms(x[1], x[2]) ? most(x) : ARGUMENT;
            case "inside": return isSlot(x[0]) && isSlot(x[1]) ? "" + slots[x[0]].isInside(slots[x[1]]) : ARGUMENT;
            case "bounds": return isSlot(x[0]) ? "" + slots[x[0]].bounds() : ARGUMENT;
            case "first": return isSlot(x[0]) && isVariable(x[1]) ? first(x) : ARGUMENT;
            case "places": return isSlot(x[0]) ? "" + slots[x[0]].places() : ARGUMENT;
            case "step": return 0 <= x[0] && x[0] < 64 && isAction(x[1], x[2], x[3], x[4]) ? step(x) : ARGUMENT;
            case "erase": return erase();
            case "run": return isSlot(x[0]) ? run(slots[x[0]]) : ARGUMENT;
            case "take": return isSlot(x[0]) && 0 <= x[1] && x[1] < 8 ? put(x[0], left[x[1]], true) : ARGUMENT;
            default: throw new IllegalArgumentException(name);
        }
    }

    private String act(int[] x) {
        return put(x[0], slots[x[0]].act(x[1], x[2], x[3], x[4]), true);
    }

    private String put(int slot, PlainShape shape, boolean answers) {
        slots[slot] = shape;
        return answers ? "" + !shape.isEmpty() : "";
    }

    private String most(int[] x) {
        if (slots[x[0]].isEmpty()) {
            return STATE;
        }
        BigInteger most = slots[x[0]].most(x[1], x[2]);
        return most == null ? "" + Long.MAX_VALUE : nearestLong(most);
    }

    private String first(int[] x) {
        return slots[x[0]].isEmpty() ? STATE : nearestLong(slots[x[0]].first(x[1]));
    }

    private static String nearestLong(BigInteger number) {
        return number.min(GREATEST).max(LEAST).toString();
    }

    private String step(int[] x) {
        if (steps.size() == 20) {
            return STATE;
        }
        steps.add(x.clone());
        return "" + (steps.size() - 1);
    }

    private String erase() {
        int count = steps.size();
        steps.clear();
        return "" + count;
    }

    private String run(PlainShape start) {
        PlainShape[] points = new PlainShape[8];
        for (int i = 0; i < points.length; i++) {
            points[i] = i == 0 ? start : PlainShape.noPlaces();
        }
        for (int round = 1; round <= 30; round++) {
            boolean changed = false;
            for (int[] step : steps) {
                int from = step[0] / 8;
                int to = step[0] % 8;
                PlainShape made = points[from].act(step[1], step[2], step[3], step[4]);
                if (!made.isInside(points[to])) {
                    PlainShape join = points[to].join(made);
                    points[to] = round >= 4 && to <= from ? points[to].widen(join) : join;
                    changed = true;
                }
            }
            if (!changed) {
                left = points;
                return "" + round;
            }
        }
        return "-1";
    }

    private static boolean isSlot(int slot) {
        return 0 <= slot && slot < 6;
    }

    private static boolean areSlots(int[] x) {
        return isSlot(x[0]) && isSlot(x[1]) && isSlot(x[2]);
    }

    private static boolean isVariable(int i) {
        return 0 <= i && i < 6;
    }

    private static boolean isTerm(int p) {
        return 0 <= p && p < 12;
    }

    private static boolean areTerms(int p, int q) {
        return isTerm(p) && isTerm(q) && (p ^ 1) != q;
    }

    private static boolean isNumber(int c) {
        return -1000000 <= c && c <= 1000000;
    }

    private static boolean isAction(int kind, int a, int b, int c) {
        switch (kind) {
            case 0: return areTerms(a, b) && isNumber(c);
            case 1: return isVariable(a) && isTerm(b) && isNumber(c);
            case 2: return isVariable(a) && isNumber(b) && isNumber(c) && b <= c;
            default: return false;
        }
    }
}
