/** Random runs of calls (always the same ones), each answer compared with that of the plain model. */
public final class ModelTest {
    private static final int RUNS = 250;
    private static final int CALLS = 500;
    private static final String[] NAMES = {
        "split", "setRadius", "cutAt", "setStock", "count", "undo", "hub", "hubAt", "joined", "led", "way",
        "strut", "strutOf", "kind", "face", "lose", "put", "mend", "worst", "stock", "radiusFor", "type",
        "clearText", "fault", "loseAll"
    };
    /** How often each call is drawn, in the order of the names. */
    private static final int[] OFTEN = {
        2, 4, 5, 6, 12, 5, 8, 4, 4, 4, 6, 5, 10, 6, 8, 30, 8, 1, 5, 8, 1, 6, 3, 8, 6
    };

    private long seed;
    private final GeodesicCutter cutter = new GeodesicCutter();
    private final PlainModel model = new PlainModel();
    private int calls = 0;
    private final int run;

    private ModelTest(int run) {
        this.run = run;
        this.seed = 7919L * run + 17;
    }

    /** A number from 0 to bound - 1. */
    private int draw(int bound) {
        seed = seed * 6364136223846793005L + 1442695040888963407L;
        return (int) Long.remainderUnsigned(seed >>> 33, bound);
    }

    /** Mostly a number in the range, sometimes one beside it or far away. */
    private int near(int least, int most) {
        switch (draw(24)) {
            case 0: return least - 1;
            case 1: return most + 1;
            case 2: return least;
            case 3: return most;
            case 4:
                int[] far = {Integer.MIN_VALUE, Integer.MAX_VALUE, -1, 0, 1 << 30, -(1 << 30)};
                return far[draw(far.length)];
            default: return least + draw(most - least + 1);
        }
    }

    private int anyHub() {
        return near(0, model.count(1) - 1);
    }

    private int anyStrut() {
        return near(0, model.count(2) - 1);
    }

    private int missingStrut() {
        if (model.missing().isEmpty() || draw(4) == 0) {
            return anyStrut();
        }
        Integer[] missing = model.missing().toArray(new Integer[0]);
        return missing[draw(missing.length)];
    }

    private int drawCall() {
        int sum = 0;
        for (int often : OFTEN) {
            sum += often;
        }
        int ticket = draw(sum);
        int call = 0;
        while (ticket >= OFTEN[call]) {
            ticket -= OFTEN[call];
            call++;
        }
        return call;
    }

    private void compare(String call, int got, int want) {
        calls++;
        Check.due("run " + run + ", call " + calls + ": " + call, got, want);
    }

    private void step() {
        int call = drawCall();
        int[] a = arguments(NAMES[call]);
        if (a.length == 0 && NAMES[call].equals("type")) {
            typeStruts();
            return;
        }
        String told = NAMES[call] + java.util.Arrays.toString(a);
        compare(told, Calls.ask(cutter, NAMES[call], a), askModel(NAMES[call], a));
    }

    private int[] arguments(String name) {
        int f = model.count(0);
        switch (name) {
            case "split": return new int[] {near(1, 6)};
            case "setRadius": return new int[] {near(10, 2000)};
            case "cutAt": return new int[] {draw(3) == 0 ? near(-f, f) : near(-f, 0)};
            case "setStock": return new int[] {draw(2) == 0 ? near(100, 20000) : near(100, 1500), near(0, 20)};
            case "count": return new int[] {near(0, 18)};
            case "hub": return new int[] {anyHub(), near(0, 8)};
            case "hubAt": return point();
            case "joined": return new int[] {anyHub(), near(0, 6)};
            case "led": return new int[] {anyHub(), near(0, 5)};
            case "way": return new int[] {anyHub(), anyHub()};
            case "strut": return twoHubs();
            case "strutOf": return new int[] {draw(4) == 0 ? missingStrut() : anyStrut(), near(0, 8)};
            case "kind": return new int[] {near(0, model.count(4) - 1), near(0, 4)};
            case "face": return new int[] {near(0, model.count(3) - 1), near(0, 6)};
            case "lose": return new int[] {draw(6) == 0 ? missingStrut() : anyStrut()};
            case "put": return new int[] {missingStrut()};
            case "stock": return new int[] {near(0, 3)};
            case "radiusFor": return new int[] {draw(2) == 0 ? near(1, 60) : near(1, 1000)};
            case "type": return draw(3) > 0 ? new int[0] : new int[] {near(32, 126)};
            case "fault": return new int[] {near(0, 1)};
            default: return new int[0];
        }
    }

    private int[] point() {
        if (draw(3) == 0) {
            return new int[] {near(-6, 6), near(-6, 6), near(-6, 6)};
        }
        PlainModel.Point p = model.ball().hubs.get(draw(model.count(1)));
        return new int[] {p.x(), p.y(), p.z()};
    }

    private int[] twoHubs() {
        if (draw(3) == 0) {
            return new int[] {anyHub(), anyHub()};
        }
        int[] ends = model.ball().struts.get(draw(model.count(2)));
        return draw(2) == 0 ? ends : new int[] {ends[1], ends[0]};
    }

    /** Types one to four struts, most of them possible, some with a flaw. */
    private void typeStruts() {
        if (draw(2) == 0) {
            compare("clearText", cutter.clearText(), model.clearText());
        }
        int many = 1 + draw(4);
        StringBuilder typed = new StringBuilder();
        for (int i = 0; i < many; i++) {
            int[] ends = twoHubs();
            boolean turn = ends[0] > ends[1] && draw(8) > 0;
            typed.append(written(ends[turn ? 1 : 0])).append(draw(40) == 0 ? '+' : '-');
            typed.append(written(ends[turn ? 0 : 1])).append(draw(40) == 0 ? ' ' : ';');
        }
        for (int i = 0; i < typed.length() && calls < CALLS; i++) {
            compare("type " + typed.charAt(i), cutter.type(typed.charAt(i)), model.type(typed.charAt(i)));
        }
    }

    private String written(int number) {
        StringBuilder text = new StringBuilder().append(number);
        while (text.length() < 3 && draw(5) == 0) {
            text.insert(0, '0');
        }
        return text.toString();
    }

    private int askModel(String name, int[] a) {
        switch (name) {
            case "split": return model.split(a[0]);
            case "setRadius": return model.setRadius(a[0]);
            case "cutAt": return model.cutAt(a[0]);
            case "setStock": return model.setStock(a[0], a[1]);
            case "count": return model.count(a[0]);
            case "undo": return model.undo();
            case "hub": return model.hub(a[0], a[1]);
            case "hubAt": return model.hubAt(a[0], a[1], a[2]);
            case "joined": return model.joined(a[0], a[1]);
            case "led": return model.led(a[0], a[1]);
            case "way": return model.way(a[0], a[1]);
            case "strut": return model.strut(a[0], a[1]);
            case "strutOf": return model.strutOf(a[0], a[1]);
            case "kind": return model.kind(a[0], a[1]);
            case "face": return model.face(a[0], a[1]);
            case "lose": return model.lose(a[0]);
            case "put": return model.put(a[0]);
            case "mend": return model.mend();
            case "worst": return model.worst();
            case "stock": return model.stock(a[0]);
            case "radiusFor": return model.radiusFor(a[0]);
            case "type": return model.type(a[0]);
            case "clearText": return model.clearText();
            case "fault": return model.fault(a[0]);
            default: return model.loseAll();
        }
    }

    /**
     * Compares everything that all steps and cut lines give, hub by hub, strut by strut, face by face.
     * These are more calls than the document answers for; the class does not count them.
     */
    private static void compareAllBalls() {
        for (int f = 1; f <= 6; f++) {
            ModelTest test = new ModelTest(1000 + f);
            test.same("split", f);
            for (int line = -f; line <= f; line += f == 6 ? 3 : 1) {
                test.same("cutAt", line);
                test.same("setRadius", 1900 + 7 * line);
                test.compareRows("hub", test.model.count(1), 8);
                test.compareRows("joined", test.model.count(1), 6);
                test.compareRows("led", test.model.count(1), 5);
                test.compareRows("strutOf", test.model.count(2), 8);
                test.compareRows("kind", test.model.count(4), 4);
                test.compareRows("face", test.model.count(3), 6);
                for (int what = 0; what <= 18; what++) {
                    test.same("count", what);
                }
            }
        }
    }

    private void same(String name, int... arguments) {
        String told = name + java.util.Arrays.toString(arguments);
        Check.due(told, Calls.ask(cutter, name, arguments), askModel(name, arguments));
    }

    private void compareRows(String name, int rows, int lastWhat) {
        for (int row = -1; row <= rows; row++) {
            for (int what = -1; what <= lastWhat + 1; what++) {
                same(name, row, what);
            }
        }
    }

    public static void main(String[] args) {
        compareAllBalls();
        for (int run = 0; run < RUNS && Check.isClean(); run++) {
            ModelTest test = new ModelTest(run);
            while (test.calls < CALLS && Check.isClean()) {
                test.step();
            }
        }
        Check.end();
    }
}
