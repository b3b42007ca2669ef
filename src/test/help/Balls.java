/**
 * Fresh objects for the tests, and whole rows of answers. Each row comes from an object of its own,
 * as the document answers for 512 calls of one object alone.
 */
final class Balls {
    static final int MOST_STEPS = 6;

    private Balls() {
    }

    static GeodesicCutter of(int steps) {
        GeodesicCutter cutter = new GeodesicCutter();
        cutter.split(steps);
        return cutter;
    }

    static GeodesicCutter dome(int steps, int line) {
        GeodesicCutter cutter = of(steps);
        cutter.cutAt(line);
        return cutter;
    }

    static int hubs(int steps) {
        return 4 * steps * steps + 2;
    }

    static int struts(int steps) {
        return 12 * steps * steps;
    }

    static int faces(int steps) {
        return 8 * steps * steps;
    }

    /** How many hubs have this z. */
    static int hubsAtHeight(int steps, int z) {
        return Math.abs(z) == steps ? 1 : 4 * (steps - Math.abs(z));
    }

    static int[] hubRow(int steps, int what) {
        GeodesicCutter cutter = of(steps);
        int[] row = new int[hubs(steps)];
        for (int hub = 0; hub < row.length; hub++) {
            row[hub] = cutter.hub(hub, what);
        }
        return row;
    }

    static int[] strutRow(int steps, int what) {
        GeodesicCutter cutter = of(steps);
        int[] row = new int[struts(steps)];
        for (int strut = 0; strut < row.length; strut++) {
            row[strut] = cutter.strutOf(strut, what);
        }
        return row;
    }

    static int[] faceRow(int steps, int what) {
        GeodesicCutter cutter = of(steps);
        int[] row = new int[faces(steps)];
        for (int face = 0; face < row.length; face++) {
            row[face] = cutter.face(face, what);
        }
        return row;
    }

    /** The strut between each two hubs that are joined, the lower one first. */
    static int[][] strutTable(int steps) {
        int[] low = strutRow(steps, 0);
        int[] high = strutRow(steps, 1);
        int[][] table = new int[hubs(steps)][hubs(steps)];
        for (int strut = 0; strut < low.length; strut++) {
            table[low[strut]][high[strut]] = strut;
        }
        return table;
    }

    /** Loses struts one by one. */
    static void lose(GeodesicCutter cutter, int... struts) {
        for (int strut : struts) {
            cutter.lose(strut);
        }
    }

    /** Loses this many struts, from strut 0 on. */
    static void loseFirst(GeodesicCutter cutter, int many) {
        for (int strut = 0; strut < many; strut++) {
            cutter.lose(strut);
        }
    }
}
