import java.math.BigInteger;
import java.util.ArrayList;
import java.util.List;

/**
 * What each call answers by the document, as a text; a call that throws answers the exception's name.
 * How shapes are worked out is left to S.
 */
final class PlainDesk<S extends SomeShape<S>> {
    private static final String ARGUMENT = "IllegalArgumentException";
    private static final String STATE = "IllegalStateException";
    private static final BigInteger GREATEST = BigInteger.valueOf(Long.MAX_VALUE);
    private static final BigInteger LEAST = BigInteger.valueOf(Long.MIN_VALUE);

    private final S all;
    private final S none;
    private final List<S> slots = new ArrayList<>();
    private List<S> left;
    private final List<int[]> steps = new ArrayList<>();

    PlainDesk(S all, S none) {
        this.all = all;
        this.none = none;
        for (int i = 0; i < 6; i++) {
            slots.add(all);
        }
        left = emptyPoints();
    }

    private List<S> emptyPoints() {
        List<S> points = new ArrayList<>();
        for (int i = 0; i < 8; i++) {
            points.add(none);
        }
        return points;
    }

    String call(String name, int[] x) {
        return accepts(name, x) ? answer(name, x) : ARGUMENT;
    }

    private static boolean accepts(String name, int[] x) {
        switch (name) {
            case "act": return isSlot(x[0]) && isAction(x[1], x[2], x[3], x[4]);
            case "copy": case "inside": return isSlot(x[0]) && isSlot(x[1]);
            case "meet": case "join": case "widen": return isSlot(x[0]) && isSlot(x[1]) && isSlot(x[2]);
            case "forget": case "first": return isSlot(x[0]) && isVariable(x[1]);
            case "most": return isSlot(x[0]) && areTerms(x[1], x[2]);
            case "step": return isWay(x[0]) && isAction(x[1], x[2], x[3], x[4]);
            case "erase": return true;
            case "take": return isSlot(x[0]) && isPoint(x[1]);
            default: return isSlot(x[0]);
        }
    }

    private String answer(String name, int[] x) {
        switch (name) {
            case "act": return "" + put(x[0], slot(x[0]).act(x[1], x[2], x[3], x[4]));
            case "clear": put(x[0], all); return "";
            case "copy": put(x[0], slot(x[1])); return "";
            case "meet": return "" + put(x[0], slot(x[1]).meet(slot(x[2])));
            case "join": put(x[0], slot(x[1]).join(slot(x[2]))); return "";
            case "widen": put(x[0], slot(x[1]).widen(slot(x[2]))); return "";
            case "forget": put(x[0], slot(x[0]).forget(x[1])); return "";
            case "isEmpty": return "" + slot(x[0]).isEmpty();
            case "most": return slot(x[0]).isEmpty() ? STATE : most(slot(x[0]).most(x[1], x[2]));
            case "inside": return "" + slot(x[0]).isInside(slot(x[1]));
            case "bounds": return "" + slot(x[0]).bounds();
            case "first": return slot(x[0]).isEmpty() ? STATE : nearestLong(slot(x[0]).first(x[1]));
            case "places": return "" + slot(x[0]).places();
            case "step": return step(x);
            case "erase": return erase();
            case "run": return run(slot(x[0]));
            case "take": return "" + put(x[0], left.get(x[1]));
            default: throw new IllegalArgumentException(name);
        }
    }

    private S slot(int i) {
        return slots.get(i);
    }

    private boolean put(int slot, S shape) {
        slots.set(slot, shape);
        return !shape.isEmpty();
    }

    private static String most(BigInteger most) {
        return most == null ? "" + Long.MAX_VALUE : nearestLong(most);
    }

    private static String nearestLong(BigInteger number) {
        return number.min(GREATEST).max(LEAST).toString();
    }

    private String step(int[] x) {
        if (steps.size() == 20) {
            return STATE;
        }
        steps.add(x.clone());
        return "" + (steps.size() - 1);
    }

    private String erase() {
        int count = steps.size();
        steps.clear();
        return "" + count;
    }

    private String run(S start) {
        List<S> points = emptyPoints();
        points.set(0, start);
        for (int round = 1; round <= 30; round++) {
            boolean changed = false;
            for (int[] step : steps) {
                changed |= follow(points, step, round);
            }
            if (!changed) {
                left = points;
                return "" + round;
            }
        }
        return "-1";
    }

    private boolean follow(List<S> points, int[] step, int round) {
        int from = step[0] / 8;
        int to = step[0] % 8;
        S end = points.get(to);
        S made = points.get(from).act(step[1], step[2], step[3], step[4]);
        if (made.isInside(end)) {
            return false;
        }
        S join = end.join(made);
        points.set(to, round >= 4 && to <= from ? end.widen(join) : join);
        return true;
    }

    private static boolean isSlot(int slot) {
        return 0 <= slot && slot < 6;
    }

    private static boolean isVariable(int i) {
        return 0 <= i && i < 6;
    }

    private static boolean isPoint(int point) {
        return 0 <= point && point < 8;
    }

    private static boolean isWay(int way) {
        return 0 <= way && way < 64;
    }

    private static boolean isTerm(int p) {
        return 0 <= p && p < 12;
    }

    private static boolean areTerms(int p, int q) {
        return isTerm(p) && isTerm(q) && (p ^ 1) != q;
    }

    private static boolean isNumber(int c) {
        return -1000000 <= c && c <= 1000000;
    }

    private static boolean isAction(int kind, int a, int b, int c) {
        switch (kind) {
            case 0: return areTerms(a, b) && isNumber(c);
            case 1: return isVariable(a) && isTerm(b) && isNumber(c);
            case 2: return isVariable(a) && isNumber(b) && isNumber(c) && b <= c;
            default: return false;
        }
    }
}
