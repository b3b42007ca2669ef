/** Promises 8 to 12: hub, hubAt, joined, led, way. */
public final class HubsTest {
    private static final int INVALID = -1001;
    private static final int NOT_POSSIBLE = -1002;
    private static final int NOT_FOUND = -1004;
    private static final int[] FAR = {-1, Integer.MIN_VALUE, Integer.MAX_VALUE};

    private static void dueHub(GeodesicCutter cutter, int hub, int... want) {
        for (int what = 0; what < want.length; what++) {
            Check.due("hub(" + hub + ", " + what + ")", cutter.hub(hub, what), want[what]);
        }
    }

    private static void hub() {
        GeodesicCutter cutter = new GeodesicCutter();
        dueHub(cutter, 0, 0, 0, 2, 4, 4, 1, 0, 4, 6);
        dueHub(cutter, 1, 0, -1, 1, 6, 6, 1, 0, 2, 12);
        dueHub(cutter, 7, 1, -1, 0, 6, 6, 1, 0, 2, 12);
        dueHub(cutter, 17, 0, 0, -2, 4, 4, 1, 0, 4, 6);
        cutter.cutAt(0);
        // Of the six hubs joined to (1, -1, 0) two have z = -1; (1, 0, -1) and (0, -1, -1).
        dueHub(cutter, 7, 1, -1, 0, 6, 4, 1, 1, 2, 12);
        dueHub(cutter, 1, 0, -1, 1, 6, 6, 1, 0, 2, 12);
        dueHub(cutter, 13, 0, -1, -1, 6, 0, 0, 0, 2, 12);
        cutter.lose(0);
        dueHub(cutter, 0, 0, 0, 2, 4, 3, 1, 0, 4, 6);
        dueHub(cutter, 1, 0, -1, 1, 6, 5, 1, 0, 2, 12);
        for (int far : new int[] {18, FAR[0], FAR[1], FAR[2]}) {
            Check.due("hub(" + far + ", 0)", cutter.hub(far, 0), INVALID);
        }
        for (int far : new int[] {9, FAR[0], FAR[1], FAR[2]}) {
            Check.due("hub(0, " + far + ")", cutter.hub(0, far), INVALID);
        }
    }

    private static void hubsAlike() {
        GeodesicCutter cutter = new GeodesicCutter();
        cutter.split(6);
        int[][] points = {{6, 0, 0, 6}, {3, 3, 0, 12}, {5, 1, 0, 24}, {4, 1, -1, 24}, {-3, 2, 1, 48}, {2, 2, -2, 8}};
        for (int[] p : points) {
            int hub = cutter.hubAt(p[0], p[1], p[2]);
            Check.due("hub(" + hub + ", 8)", cutter.hub(hub, 8), p[3]);
            Check.due("hub(" + hub + ", 7)", cutter.hub(hub, 7), p[0] * p[0] + p[1] * p[1] + p[2] * p[2]);
        }
    }

    private static void hubAt() {
        GeodesicCutter cutter = new GeodesicCutter();
        Check.due("hubAt(0, 0, 2)", cutter.hubAt(0, 0, 2), 0);
        Check.due("hubAt(0, 0, -2)", cutter.hubAt(0, 0, -2), 17);
        Check.due("hubAt(-1, 1, 0)", cutter.hubAt(-1, 1, 0), 10);
        Check.due("hubAt(0, 0, 0)", cutter.hubAt(0, 0, 0), NOT_FOUND);
        Check.due("hubAt(1, 1, 1)", cutter.hubAt(1, 1, 1), NOT_FOUND);
        Check.due("hubAt(6, -6, 6)", cutter.hubAt(6, -6, 6), NOT_FOUND);
        for (int far : new int[] {7, -7, FAR[1], FAR[2]}) {
            Check.due("hubAt(" + far + ", 0, 0)", cutter.hubAt(far, 0, 0), INVALID);
            Check.due("hubAt(0, " + far + ", 0)", cutter.hubAt(0, far, 0), INVALID);
            Check.due("hubAt(0, 0, " + far + ")", cutter.hubAt(0, 0, far), INVALID);
        }
        cutter.split(6);
        Check.due("hubAt(0, 0, 6)", cutter.hubAt(0, 0, 6), 0);
        Check.due("hubAt(6, 0, 0)", cutter.hubAt(6, 0, 0), 73);
        Check.due("hubAt(-6, 0, 0)", cutter.hubAt(-6, 0, 0), 72);
        Check.due("hubAt(0, 0, -6)", cutter.hubAt(0, 0, -6), 145);
    }

    private static void joined() {
        GeodesicCutter cutter = new GeodesicCutter();
        int[] atSeven = {1, 3, 5, 9, 13, 15, NOT_FOUND, NOT_FOUND};
        for (int i = 0; i < atSeven.length; i++) {
            Check.due("joined(7, " + i + ")", cutter.joined(7, i), atSeven[i]);
        }
        Check.due("joined(0, 3)", cutter.joined(0, 3), 4);
        Check.due("joined(0, 4)", cutter.joined(0, 4), NOT_FOUND);
        Check.due("joined(17, 0)", cutter.joined(17, 0), 13);
        Check.due("joined(0, far)", cutter.joined(0, Integer.MAX_VALUE), NOT_FOUND);
        Check.due("joined(0, -1)", cutter.joined(0, -1), INVALID);
        Check.due("joined(0, least)", cutter.joined(0, Integer.MIN_VALUE), INVALID);
        Check.due("joined(18, 0)", cutter.joined(18, 0), INVALID);
        Check.due("joined(18, 9)", cutter.joined(18, 9), INVALID);
        Check.due("joined(-1, 0)", cutter.joined(-1, 0), INVALID);
        cutter.cutAt(2);
        cutter.lose(0);
        Check.due("joined(0, 0), cut and missing", cutter.joined(0, 0), 1);
    }

    private static void led() {
        GeodesicCutter cutter = new GeodesicCutter();
        cutter.split(6);
        int hub = cutter.hubAt(3, -2, 1);
        int[][] places = {{-3, -2, 1}, {3, 2, 1}, {3, -2, -1}, {2, 3, 1}, {-2, 1, 3}, {-3, 2, -1}};
        for (int way = 0; way < 6; way++) {
            int[] p = places[way];
            Check.due("led((3, -2, 1), " + way + ")", cutter.led(hub, way), cutter.hubAt(p[0], p[1], p[2]));
        }
        Check.due("led((0, 0, 6), 0)", cutter.led(0, 0), 0);
        Check.due("led((0, 0, 6), 5)", cutter.led(0, 5), 145);
        for (int far : new int[] {6, FAR[0], FAR[1], FAR[2]}) {
            Check.due("led(0, " + far + ")", cutter.led(0, far), INVALID);
        }
        for (int far : new int[] {146, FAR[0], FAR[1], FAR[2]}) {
            Check.due("led(" + far + ", 0)", cutter.led(far, 0), INVALID);
        }
        cutter.cutAt(6);
        Check.due("led to a hub that is not kept", cutter.led(0, 2), 145);
    }

    private static void way() {
        GeodesicCutter cutter = new GeodesicCutter();
        Check.due("way(0, 17)", cutter.way(0, 17), 4);
        Check.due("way(17, 0)", cutter.way(17, 0), 4);
        Check.due("way(3, 3)", cutter.way(3, 3), 0);
        Check.due("way(0, 1)", cutter.way(0, 1), 1);
        cutter.lose(cutter.strut(0, 1));
        Check.due("way(0, 1) round a missing strut", cutter.way(0, 1), 2);
        for (int far : new int[] {18, FAR[0], FAR[1], FAR[2]}) {
            Check.due("way(" + far + ", 0)", cutter.way(far, 0), INVALID);
            Check.due("way(0, " + far + ")", cutter.way(0, far), INVALID);
        }
        cutter.cutAt(1);
        Check.due("way(0, 5), 5 not kept", cutter.way(0, 5), NOT_POSSIBLE);
        Check.due("way(5, 0), 5 not kept", cutter.way(5, 0), NOT_POSSIBLE);
        Check.due("way(5, 5), not kept", cutter.way(5, 5), NOT_POSSIBLE);
        Check.due("way(5, 18), invalid first", cutter.way(5, 18), INVALID);
        cutter.split(6);
        Check.due("way(0, 145) of 6 steps", cutter.way(0, 145), 12);
        Check.due("way(72, 73) of 6 steps", cutter.way(72, 73), 12);
    }

    private static void wayOnADome() {
        GeodesicCutter cutter = new GeodesicCutter();
        cutter.split(1);
        cutter.lose(cutter.strut(0, 1));
        cutter.lose(cutter.strut(1, 2));
        cutter.lose(cutter.strut(1, 3));
        Check.due("way(0, 1) by the lower hub", cutter.way(0, 1), 3);
        cutter.cutAt(0);
        Check.due("way(0, 1) without the lower hub", cutter.way(0, 1), NOT_FOUND);
        Check.due("way(1, 1) with no strut", cutter.way(1, 1), 0);
        Check.due("way(2, 3) by 0", cutter.way(2, 3), 2);
        cutter.put(cutter.strut(1, 3));
        Check.due("way(0, 1) by 3", cutter.way(0, 1), 2);
    }

    public static void main(String[] args) {
        hub();
        hubsAlike();
        hubAt();
        joined();
        led();
        way();
        wayOnADome();
        Check.end();
    }
}
