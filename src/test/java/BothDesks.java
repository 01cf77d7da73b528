/** Tells every call to the class and to the plain desk, and looks whether they answer the same. */
final class BothDesks {
    private static final int CALL_LIMIT = 512;

    private final OctagonDesk desk = new OctagonDesk();
    private final PlainDesk plain = new PlainDesk();
    private final Check check;
    private final String run;
    private int calls;

    BothDesks(Check check, String run) {
        this.check = check;
        this.run = run;
    }

    int callsLeft() {
        return CALL_LIMIT - calls;
    }

    String call(String name, int... x) {
        if (calls >= CALL_LIMIT) {
            return "no calls left";
        }
        calls++;
        String want = plain.call(name, x);
        check.due(run + " call " + calls + " " + name + java.util.Arrays.toString(x), answer(name, x), want);
        return want;
    }

    private String answer(String name, int[] x) {
        try {
            return ask(name, x);
        } catch (RuntimeException e) {
            return e.getClass().getSimpleName();
        }
    }

    private String ask(String name, int[] x) {
        switch (name) {
            case "act": return "" + desk.act(x[0], x[1], x[2], x[3], x[4]);
            case "clear": desk.clear(x[0]); return "";
            case "copy": desk.copy(x[0], x[1]); return "";
            case "meet": return "" + desk.meet(x[0], x[1], x[2]);
            case "join": desk.join(x[0], x[1], x[2]); return "";
            case "widen": desk.widen(x[0], x[1], x[2]); return "";
            case "forget": desk.forget(x[0], x[1]); return "";
            case "isEmpty": return "" + desk.isEmpty(x[0]);
            case "most": return "" + desk.most(x[0], x[1], x[2]);
            case "inside": return "" + desk.inside(x[0], x[1]);
            case "bounds": return "" + desk.bounds(x[0]);
            case "first": return "" + desk.first(x[0], x[1]);
            case "places": return "" + desk.places(x[0]);
            case "step": return "" + desk.step(x[0], x[1], x[2], x[3], x[4]);
            case "erase": return "" + desk.erase();
            case "run": return "" + desk.run(x[0]);
            case "take": return "" + desk.take(x[0], x[1]);
            default: throw new IllegalArgumentException(name);
        }
    }
}
