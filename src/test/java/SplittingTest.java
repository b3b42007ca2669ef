/** Promises 1 to 7: a new object, split, setRadius, cutAt, setStock, count, undo. */
public final class SplittingTest {
    private static final int INVALID = -1001;
    private static final int NOT_POSSIBLE = -1002;
    private static final int[] NEW = {
        2, 18, 48, 32, 2, 1000, -2, 18, 48, 32, 0, 0, 0, 2, 6000, 3, 0, 0, 0
    };

    private static void dueCounts(String when, GeodesicCutter cutter, int... want) {
        for (int what = 0; what < want.length; what++) {
            Check.due(when + ": count(" + what + ")", cutter.count(what), want[what]);
        }
    }

    private static void newObject() {
        GeodesicCutter cutter = new GeodesicCutter();
        dueCounts("new", cutter, NEW);
        for (int strut = 0; strut < 48; strut++) {
            Check.due("new: strutOf(" + strut + ", 5)", cutter.strutOf(strut, 5), 0);
            Check.due("new: strutOf(" + strut + ", 4)", cutter.strutOf(strut, 4), 1);
        }
        GeodesicCutter other = new GeodesicCutter();
        other.split(6);
        other.lose(3);
        dueCounts("new, beside another", cutter, NEW);
    }

    private static void split() {
        int[] kinds = {0, 1, 2, 3, 6, 9, 9};
        GeodesicCutter cutter = new GeodesicCutter();
        for (int f = 1; f <= 6; f++) {
            Check.due("split(" + f + ")", cutter.split(f), 4 * f * f + 2);
            dueCounts("split " + f, cutter, f, 4 * f * f + 2, 12 * f * f, 8 * f * f, kinds[f], 1000, -f,
                    4 * f * f + 2, 12 * f * f, 8 * f * f, 0, 0, 0, 2);
        }
        for (int wrong : new int[] {0, 7, -1, Integer.MIN_VALUE, Integer.MAX_VALUE}) {
            Check.due("split(" + wrong + ")", cutter.split(wrong), INVALID);
        }
        Check.due("steps after wrong splits", cutter.count(0), 6);
        Check.due("history after wrong splits", cutter.count(16), 6);
    }

    private static void splitAnew() {
        GeodesicCutter cutter = new GeodesicCutter();
        cutter.setRadius(1234);
        cutter.setStock(7000, 5);
        cutter.cutAt(1);
        cutter.lose(0);
        cutter.lose(47);
        Check.typeAll(cutter, "0-2;");
        Check.due("split(2) again", cutter.split(2), 18);
        dueCounts("split again", cutter, 2, 18, 48, 32, 2, 1234, -2, 18, 48, 32, 0, 0, 0, 2, 7000, 5, 6, 4, 0);
        Check.due("strutOf(47, 5) after split", cutter.strutOf(47, 5), 0);
    }

    private static void setRadius() {
        GeodesicCutter cutter = new GeodesicCutter();
        Check.due("setRadius(10)", cutter.setRadius(10), 1000);
        Check.due("setRadius(2000)", cutter.setRadius(2000), 10);
        for (int wrong : new int[] {9, 2001, 0, -10, Integer.MIN_VALUE, Integer.MAX_VALUE}) {
            Check.due("setRadius(" + wrong + ")", cutter.setRadius(wrong), INVALID);
        }
        Check.due("radius", cutter.count(5), 2000);
        Check.due("history", cutter.count(16), 2);
        Check.due("the same radius", cutter.setRadius(2000), 2000);
        Check.due("history counts it", cutter.count(16), 3);
        cutter.setStock(100, 0);
        Check.due("a radius may make struts too long", cutter.setRadius(1999), 2000);
    }

    private static void cutAt() {
        GeodesicCutter cutter = new GeodesicCutter();
        int[] kept = {18, 17, 13, 5, 1};
        for (int line = -2; line <= 2; line++) {
            Check.due("cutAt(" + line + ")", cutter.cutAt(line), kept[line + 2]);
            Check.due("line", cutter.count(6), line);
        }
        cutter.cutAt(0);
        // Kept: z = 2, 1, 0 with 1, 4, 8 hubs; the equator of 8 hubs is the border.
        dueCounts("cut at 0", cutter, 2, 18, 48, 32, 2, 1000, 0, 13, 28, 16, 8, 0, 0, 1);
        cutter.cutAt(1);
        dueCounts("cut at 1", cutter, 2, 18, 48, 32, 2, 1000, 1, 5, 8, 4, 4, 0, 0, 1);
        cutter.cutAt(2);
        dueCounts("cut at 2", cutter, 2, 18, 48, 32, 2, 1000, 2, 1, 0, 0, 1, 0, 0, 1);
        cutter.cutAt(-1);
        dueCounts("cut at -1", cutter, 2, 18, 48, 32, 2, 1000, -1, 17, 44, 28, 4, 0, 0, 1);
        for (int wrong : new int[] {-3, 3, Integer.MIN_VALUE, Integer.MAX_VALUE}) {
            Check.due("cutAt(" + wrong + ")", cutter.cutAt(wrong), INVALID);
        }
        Check.due("line after wrong cuts", cutter.count(6), -1);
        cutter.split(3);
        Check.due("cutAt(3) of 3 steps", cutter.cutAt(3), 1);
        Check.due("cutAt(-3) of 3 steps", cutter.cutAt(-3), 38);
        Check.due("cutAt(4) of 3 steps", cutter.cutAt(4), INVALID);
    }

    private static void countMissing() {
        GeodesicCutter cutter = new GeodesicCutter();
        cutter.lose(0);
        cutter.lose(47);
        Check.typeAll(cutter, "abc");
        dueCounts("two missing", cutter, 2, 18, 48, 32, 2, 1000, -2, 18, 48, 32, 0, 2, 4, 2, 6000, 3, 2, 3, 2);
        cutter.cutAt(0);
        dueCounts("one of them kept", cutter, 2, 18, 48, 32, 2, 1000, 0, 13, 28, 16, 8, 1, 2, 1, 6000, 3, 3, 3, 2);
        for (int wrong : new int[] {-1, 19, Integer.MIN_VALUE, Integer.MAX_VALUE}) {
            Check.due("count(" + wrong + ")", cutter.count(wrong), INVALID);
        }
    }

    private static void undo() {
        GeodesicCutter cutter = new GeodesicCutter();
        Check.due("undo() of nothing", cutter.undo(), NOT_POSSIBLE);
        cutter.setStock(7000, 4);
        cutter.setRadius(500);
        cutter.cutAt(1);
        cutter.lose(5);
        cutter.lose(6);
        cutter.split(4);
        Check.typeAll(cutter, "0-1;");
        Check.due("history", cutter.count(16), 6);
        Check.due("undo split", cutter.undo(), 5);
        // Strut 6 leads to a hub that is not kept; strut 5 makes the one hole.
        dueCounts("before split", cutter, 2, 18, 48, 32, 2, 500, 1, 5, 8, 4, 4, 1, 1, 1, 7000, 4, 5, 4, 2);
        Check.due("hub(17, 2)", cutter.hub(17, 2), -2);
        Check.due("hub(18, 2)", cutter.hub(18, 2), INVALID);
        Check.due("undo lose", cutter.undo(), 4);
        Check.due("strutOf(5, 5)", cutter.strutOf(5, 5), 1);
        Check.due("strutOf(6, 5)", cutter.strutOf(6, 5), 0);
        Check.due("undo lose", cutter.undo(), 3);
        Check.due("missing", cutter.count(18), 0);
        Check.due("undo cut", cutter.undo(), 2);
        Check.due("line", cutter.count(6), -2);
        Check.due("undo radius", cutter.undo(), 1);
        Check.due("radius", cutter.count(5), 1000);
        Check.due("undo stock", cutter.undo(), 0);
        dueCounts("all undone but the text", cutter,
                2, 18, 48, 32, 2, 1000, -2, 18, 48, 32, 0, 0, 0, 2, 6000, 3, 0, 4, 0);
        Check.due("undo() of nothing left", cutter.undo(), NOT_POSSIBLE);
    }

    private static void historyDropsTheOldest() {
        GeodesicCutter cutter = new GeodesicCutter();
        for (int i = 1; i <= 8; i++) {
            cutter.setRadius(100 + i);
            Check.due("history after " + i + " changes", cutter.count(16), Math.min(i, 6));
        }
        for (int i = 7; i >= 2; i--) {
            Check.due("undo() to " + i, cutter.undo(), i - 2);
            Check.due("radius", cutter.count(5), 100 + i);
        }
        Check.due("undo() of dropped states", cutter.undo(), NOT_POSSIBLE);
        Check.due("radius", cutter.count(5), 102);
    }

    private static void onlyChangesAreRecorded() {
        GeodesicCutter cutter = new GeodesicCutter();
        cutter.split(0);
        cutter.setRadius(9);
        cutter.cutAt(3);
        cutter.setStock(99, 3);
        cutter.setStock(100, 3);
        cutter.lose(48);
        cutter.put(0);
        cutter.type('x');
        cutter.loseAll();
        cutter.clearText();
        cutter.worst();
        cutter.radiusFor(3);
        Check.due("history without changes", cutter.count(16), 0);
        cutter.mend();
        Check.due("mend() is recorded", cutter.count(16), 1);
        cutter.loseAll();
        Check.due("loseAll() of nothing is recorded", cutter.count(16), 2);
        cutter.cutAt(-2);
        Check.due("the same cut is recorded", cutter.count(16), 3);
        cutter.setStock(6000, 3);
        Check.due("the same stock is recorded", cutter.count(16), 4);
        cutter.split(2);
        Check.due("the same steps are recorded", cutter.count(16), 5);
        Check.due("undo() then leaves four", cutter.undo(), 4);
    }

    public static void main(String[] args) {
        newObject();
        split();
        splitAnew();
        setRadius();
        cutAt();
        countMissing();
        undo();
        historyDropsTheOldest();
        onlyChangesAreRecorded();
        Check.end();
    }
}
