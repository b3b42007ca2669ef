/** Promises 5, 21 and 22, and the sawing of promise 14: setStock, stock, radiusFor, strutOf with 8. */
public final class StockTest {
    private static final int INVALID = -1001;
    private static final int NOT_POSSIBLE = -1002;
    private static final int NOT_FOUND = -1004;

    private static void dueStock(String when, GeodesicCutter cutter, int... want) {
        for (int what = 0; what < want.length; what++) {
            Check.due(when + ": stock(" + what + ")", cutter.stock(what), want[what]);
        }
    }

    /** 12 struts of 1414. */
    private static void oneKind() {
        GeodesicCutter cutter = new GeodesicCutter();
        cutter.split(1);
        dueStock("6000, 3", cutter, 3, 996, 4, 16968);
        Check.due("setStock(2828, 0)", cutter.setStock(2828, 0), 6);
        dueStock("2828, 0", cutter, 6, 0, 2, 16968);
        Check.due("setStock(2828, 1)", cutter.setStock(2828, 1), 12);
        dueStock("2828, 1", cutter, 12, 12 * 1413, 1, 16968);
        Check.due("setStock(2829, 1)", cutter.setStock(2829, 1), 6);
        Check.due("setStock(1414, 20)", cutter.setStock(1414, 20), 12);
        dueStock("nothing is left below 0", cutter, 12, 0, 1, 16968);
        Check.due("setStock(1413, 20)", cutter.setStock(1413, 20), NOT_POSSIBLE);
        Check.due("bar after a refusal", cutter.count(14), 1414);
        Check.due("setStock(20000, 0)", cutter.setStock(20000, 0), 1);
        dueStock("20000, 0", cutter, 1, 20000 - 16968, 12, 16968);
        cutter.lose(0);
        dueStock("missing ones are sawn, too", cutter, 1, 20000 - 16968, 12, 16968);
        cutter.cutAt(0);
        dueStock("the kept ones alone", cutter, 1, 20000 - 8 * 1414, 8, 8 * 1414);
        cutter.cutAt(1);
        dueStock("no strut", cutter, 0, 0, 0, 0);
    }

    /** 24 struts of 1000 and then 24 of 765. */
    private static void twoKinds() {
        GeodesicCutter cutter = new GeodesicCutter();
        Check.due("setStock(1785, 20)", cutter.setStock(1785, 20), 24);
        dueStock("765 are left and taken", cutter, 24, 0, 2, 42360);
        Check.due("strutOf(0, 8)", cutter.strutOf(0, 8), 0);
        Check.due("strutOf(4, 8)", cutter.strutOf(4, 8), 0);
        Check.due("strutOf(1, 8)", cutter.strutOf(1, 8), 1);
        Check.due("strutOf(5, 8)", cutter.strutOf(5, 8), 1);
        Check.due("strutOf(47, 8)", cutter.strutOf(47, 8), 23);
        Check.due("setStock(1784, 20)", cutter.setStock(1784, 20), 36);
        dueStock("764 are left", cutter, 36, 24 * 764 + 12 * 214, 2, 42360);
        Check.due("strutOf(0, 8)", cutter.strutOf(0, 8), 24);
        Check.due("strutOf(1, 8)", cutter.strutOf(1, 8), 24);
        Check.due("strutOf(2, 8)", cutter.strutOf(2, 8), 25);
        Check.due("strutOf(47, 8)", cutter.strutOf(47, 8), 35);
    }

    /** A kind begins again at the first bar, and a bar keeps what is left for shorter kinds. */
    private static void threeKinds() {
        GeodesicCutter cutter = new GeodesicCutter();
        cutter.split(3);
        cutter.cutAt(2);
        // Kept: 4 struts of 459 (at the top) and 4 of 632 (round it).
        Check.due("setStock(1100, 3)", cutter.setStock(1100, 3), 4);
        dueStock("1100, 3", cutter, 4, 4 * (1100 - 632 - 459 - 6), 2, 4364);
        Check.due("setStock(1093, 3)", cutter.setStock(1093, 3), 6);
        dueStock("1093, 3", cutter, 6, 4 * 458 + 2 * (1093 - 924), 2, 4364);
    }

    private static void setStockRanges() {
        GeodesicCutter cutter = new GeodesicCutter();
        cutter.setRadius(10);
        int[][] wrong = {{99, 3}, {20001, 3}, {6000, -1}, {6000, 21}, {Integer.MIN_VALUE, 0},
            {Integer.MAX_VALUE, 0}, {6000, Integer.MIN_VALUE}, {6000, Integer.MAX_VALUE}, {0, 0}};
        for (int[] pair : wrong) {
            Check.due("setStock(" + pair[0] + ", " + pair[1] + ")", cutter.setStock(pair[0], pair[1]), INVALID);
        }
        Check.due("history", cutter.count(16), 1);
        // 24 of 10 and 24 of 7: 408.
        Check.due("setStock(100, 0)", cutter.setStock(100, 0), 5);
        Check.due("setStock(20000, 20)", cutter.setStock(20000, 20), 1);
        Check.due("bar", cutter.count(14), 20000);
        Check.due("saw", cutter.count(15), 20);
        cutter.setRadius(2000);
        Check.due("wrong before not possible", cutter.setStock(100, 21), INVALID);
        Check.due("not possible", cutter.setStock(100, 20), NOT_POSSIBLE);
        cutter.cutAt(2);
        Check.due("no strut needs no bar", cutter.setStock(100, 20), 0);
    }

    private static void stockOfTooLongStruts() {
        GeodesicCutter cutter = new GeodesicCutter();
        cutter.setStock(1000, 0);
        cutter.setRadius(1001);
        for (int what = 0; what <= 3; what++) {
            Check.due("stock(" + what + "), too long", cutter.stock(what), NOT_POSSIBLE);
        }
        for (int far : new int[] {-1, 4, Integer.MIN_VALUE, Integer.MAX_VALUE}) {
            Check.due("stock(" + far + ")", cutter.stock(far), INVALID);
        }
        cutter.setRadius(1000);
        Check.due("stock(0), just not too long", cutter.stock(0), 48);
    }

    private static void radiusFor() {
        GeodesicCutter cutter = new GeodesicCutter();
        cutter.split(1);
        // Twelve struts of L, k in a bar if k * L + (k - 1) * 3 <= 6000, L the root of 2 times R.
        int[][] due = {{1, 352}, {2, 705}, {3, 1059}, {4, 1413}, {5, 1413}, {6, 2000}, {12, 2000}, {1000, 2000}};
        for (int[] row : due) {
            Check.due("radiusFor(" + row[0] + ")", cutter.radiusFor(row[0]), row[1]);
        }
        for (int far : new int[] {0, 1001, -1, Integer.MIN_VALUE, Integer.MAX_VALUE}) {
            Check.due("radiusFor(" + far + ")", cutter.radiusFor(far), INVALID);
        }
        Check.due("the radius stays", cutter.count(5), 1000);
        Check.due("the history stays", cutter.count(16), 1);
        cutter.setStock(1500, 3);
        Check.due("no strut is longer than a bar", cutter.radiusFor(1000), 1061);
        cutter.setRadius(2000);
        Check.due("the radius itself does not matter", cutter.radiusFor(1000), 1061);
        cutter.cutAt(1);
        Check.due("no strut", cutter.radiusFor(1), 2000);
    }

    private static void radiusForAtTheLeast() {
        GeodesicCutter cutter = new GeodesicCutter();
        cutter.split(1);
        cutter.setRadius(10);
        // Struts of 14, three in a bar: what is left is 66, 32, 0.
        Check.due("setStock(100, 20)", cutter.setStock(100, 20), 4);
        Check.due("radiusFor(4)", cutter.radiusFor(4), 14);
        Check.due("radiusFor(3)", cutter.radiusFor(3), NOT_FOUND);
        Check.due("setStock(168, 0)", cutter.setStock(168, 0), 1);
        Check.due("radiusFor(1)", cutter.radiusFor(1), 10);
        Check.due("setStock(167, 0)", cutter.setStock(167, 0), 2);
        Check.due("radiusFor(1)", cutter.radiusFor(1), NOT_FOUND);
        cutter.lose(0);
        Check.due("radiusFor(1), missing ones are sawn", cutter.radiusFor(1), NOT_FOUND);
        cutter.cutAt(0);
        // Eight struts of at most 20.
        Check.due("radiusFor(1), cut", cutter.radiusFor(1), 14);
    }

    public static void main(String[] args) {
        oneKind();
        twoKinds();
        threeKinds();
        setStockRanges();
        stockOfTooLongStruts();
        radiusFor();
        radiusForAtTheLeast();
        Check.end();
    }
}
