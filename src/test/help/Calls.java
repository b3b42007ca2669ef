import java.util.Arrays;

/** Calls of the class by their names. */
final class Calls {
    private Calls() {
    }

    static int ask(GeodesicCutter cutter, String name, int... a) {
        switch (name) {
            case "split": return cutter.split(a[0]);
            case "setRadius": return cutter.setRadius(a[0]);
            case "cutAt": return cutter.cutAt(a[0]);
            case "setStock": return cutter.setStock(a[0], a[1]);
            case "count": return cutter.count(a[0]);
            case "undo": return cutter.undo();
            case "hub": return cutter.hub(a[0], a[1]);
            case "hubAt": return cutter.hubAt(a[0], a[1], a[2]);
            case "joined": return cutter.joined(a[0], a[1]);
            case "led": return cutter.led(a[0], a[1]);
            case "way": return cutter.way(a[0], a[1]);
            case "strut": return cutter.strut(a[0], a[1]);
            case "strutOf": return cutter.strutOf(a[0], a[1]);
            case "kind": return cutter.kind(a[0], a[1]);
            case "face": return cutter.face(a[0], a[1]);
            case "lose": return cutter.lose(a[0]);
            case "put": return cutter.put(a[0]);
            case "mend": return cutter.mend();
            case "worst": return cutter.worst();
            case "stock": return cutter.stock(a[0]);
            case "radiusFor": return cutter.radiusFor(a[0]);
            case "type": return cutter.type(a[0]);
            case "clearText": return cutter.clearText();
            case "fault": return cutter.fault(a[0]);
            case "loseAll": return cutter.loseAll();
            default: throw new IllegalArgumentException(name);
        }
    }

    static void due(int want, GeodesicCutter cutter, String name, int... a) {
        Check.due(name + Arrays.toString(a), ask(cutter, name, a), want);
    }

    /** Asks a call of one argument with each of these, which are all wrong. */
    static void dueInvalid(GeodesicCutter cutter, String name, int... wrong) {
        for (int argument : wrong) {
            due(Check.INVALID, cutter, name, argument);
        }
        due(Check.INVALID, cutter, name, Integer.MIN_VALUE);
        due(Check.INVALID, cutter, name, Integer.MAX_VALUE);
    }

    /** Asks a call of two arguments with a first one around its range, and then with the second one. */
    static void dueInvalidPairs(GeodesicCutter cutter, String name, int firstEnd, int secondEnd) {
        for (int wrong : new int[] {-1, firstEnd, Integer.MIN_VALUE, Integer.MAX_VALUE}) {
            due(Check.INVALID, cutter, name, wrong, 0);
        }
        for (int wrong : new int[] {-1, secondEnd, Integer.MIN_VALUE, Integer.MAX_VALUE}) {
            due(Check.INVALID, cutter, name, 0, wrong);
        }
    }
}
