import java.util.Arrays;
import java.util.Map;
import java.util.TreeMap;

/** Tells every call to the class and to a plain desk, and looks whether they answer the same. */
final class BothDesks {
    static final String NOT_MADE = "not made";
    private static final int CALL_LIMIT = 512;

    private final OctagonDesk desk = new OctagonDesk();
    private final PlainDesk<?> plain;
    private final Check check;
    private final String run;
    private final Map<String, Integer> tally = new TreeMap<>();
    private int calls;

    BothDesks(Check check, String run, PlainDesk<?> plain) {
        this.check = check;
        this.run = run;
        this.plain = plain;
    }

    static PlainDesk<PlainShape> tables() {
        return new PlainDesk<>(PlainShape.allPlaces(), PlainShape.noPlaces());
    }

    static PlainDesk<SeenShape> places(int... used) {
        return new PlainDesk<>(SeenShape.allPlaces(used), SeenShape.noPlaces(used));
    }

    int callsLeft() {
        return CALL_LIMIT - calls;
    }

    /** A call is not made where the plain desk's shapes end, nor behind the last one. */
    String call(String name, int... x) {
        if (calls >= CALL_LIMIT) {
            return NOT_MADE;
        }
        String want;
        try {
            want = plain.call(name, x);
        } catch (SeenShape.TooGreat e) {
            return NOT_MADE;
        }
        calls++;
        String call = name + Arrays.toString(x);
        tally.merge(name + " " + want, 1, Integer::sum);
        check.due(run + " call " + calls + " " + call, answer(name, x), want);
        return want;
    }

    /** How often each sort of call had each answer. */
    void addTo(Map<String, Integer> all) {
        for (Map.Entry<String, Integer> one : tally.entrySet()) {
            all.merge(one.getKey(), one.getValue(), Integer::sum);
        }
    }

    private String answer(String name, int[] x) {
        try {
            return ask(name, x);
        } catch (RuntimeException e) {
            return e.getClass().getSimpleName();
        }
    }

    private String ask(String name, int[] x) {
        switch (name) {
            case "act": return "" + desk.act(x[0], x[1], x[2], x[3], x[4]);
            case "clear": desk.clear(x[0]); return "";
            case "copy": desk.copy(x[0], x[1]); return "";
            case "meet": return "" + desk.meet(x[0], x[1], x[2]);
            case "join": desk.join(x[0], x[1], x[2]); return "";
            case "widen": desk.widen(x[0], x[1], x[2]); return "";
            case "forget": desk.forget(x[0], x[1]); return "";
            case "isEmpty": return "" + desk.isEmpty(x[0]);
            case "most": return "" + desk.most(x[0], x[1], x[2]);
            case "inside": return "" + desk.inside(x[0], x[1]);
            case "bounds": return "" + desk.bounds(x[0]);
            case "first": return "" + desk.first(x[0], x[1]);
            case "places": return "" + desk.places(x[0]);
            case "step": return "" + desk.step(x[0], x[1], x[2], x[3], x[4]);
            case "erase": return "" + desk.erase();
            case "run": return "" + desk.run(x[0]);
            case "take": return "" + desk.take(x[0], x[1]);
            default: throw new IllegalArgumentException(name);
        }
    }
}
