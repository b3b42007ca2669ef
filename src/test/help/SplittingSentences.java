/** The sentences of promises 1 to 7, at their boundaries. */
final class SplittingSentences {
    private SplittingSentences() {
    }

    private static void newObject() {
        Sentences.promise(1, "Creates a ball of 2 steps with the radius 1000, all of which is kept, "
                + "without missing struts");
        GeodesicCutter used = new GeodesicCutter();
        used.split(6);
        used.setRadius(10);
        used.lose(0);
        GeodesicCutter cutter = new GeodesicCutter();
        int[] counts = {2, 18, 48, 32, 2, 1000, -2, 18, 48, 32, 0, 0, 0, 2, 6000, 3, 0, 0, 0};
        for (int what = 0; what < counts.length; what++) {
            Calls.due(counts[what], cutter, "count", what);
        }
        for (int hub = 0; hub < 18; hub++) {
            Calls.due(1, cutter, "hub", hub, 5);
        }
        for (int strut = 0; strut < 48; strut++) {
            Calls.due(1, cutter, "strutOf", strut, 4);
            Calls.due(0, cutter, "strutOf", strut, 5);
        }
        for (int face = 0; face < 32; face++) {
            Calls.due(1, cutter, "face", face, 3);
            Calls.due(1, cutter, "face", face, 4);
        }
        Calls.due(Check.NOT_POSSIBLE, cutter, "undo");
        Calls.due(0, cutter, "clearText");
    }

    private static void split() {
        Sentences.promise(2, "Splits anew: no strut is missing, the cut line is -f");
        for (int f = 1; f <= Balls.MOST_STEPS; f++) {
            GeodesicCutter cutter = Balls.dome(2, 1);
            Balls.loseFirst(cutter, 40);
            cutter.split(f);
            Calls.due(0, cutter, "count", 18);
            Calls.due(0, cutter, "count", 12);
            Calls.due(-f, cutter, "count", 6);
            Calls.due(Balls.hubs(f), cutter, "count", 7);
            Calls.due(Check.NOT_POSSIBLE, cutter, "put", 0);
            Calls.due(2, cutter, "lose", 0);
        }
        Sentences.promise(2, "Radius and stock stay");
        int[][] rows = {{10, 100, 0}, {2000, 20000, 20}};
        for (int[] row : rows) {
            GeodesicCutter cutter = new GeodesicCutter();
            cutter.setRadius(row[0]);
            cutter.setStock(row[1], row[2]);
            cutter.split(1);
            Calls.due(row[0], cutter, "count", 5);
            Calls.due(row[1], cutter, "count", 14);
            Calls.due(row[2], cutter, "count", 15);
        }
    }

    /** An object that has had more steps answers like one that has not. */
    private static void splitLeavesNothingBehind() {
        Sentences.promise(2, "Splits anew");
        for (int f = 1; f < Balls.MOST_STEPS; f++) {
            for (int line = -f; line <= f; line++) {
                GeodesicCutter cutter = Balls.of(6);
                cutter.split(f);
                cutter.cutAt(line);
                GeodesicCutter fresh = Balls.dome(f, line);
                for (int what = 0; what <= 15; what++) {
                    Calls.due(fresh.count(what), cutter, "count", what);
                }
                for (int hub = 0; hub < Balls.hubs(f); hub++) {
                    Calls.due(fresh.hub(hub, 3), cutter, "hub", hub, 3);
                    Calls.due(fresh.hub(hub, 4), cutter, "hub", hub, 4);
                    Calls.due(fresh.hub(hub, 6), cutter, "hub", hub, 6);
                    Calls.due(fresh.joined(hub, 4), cutter, "joined", hub, 4);
                }
            }
        }
    }

    private static void splitRange() {
        Sentences.promise(2, "Returns the number of hubs");
        int[] hubs = {6, 18, 38, 66, 102, 146};
        GeodesicCutter cutter = new GeodesicCutter();
        for (int f = 1; f <= 6; f++) {
            Calls.due(hubs[f - 1], cutter, "split", f);
        }
        Sentences.promise(2, "`steps`: 1 to 6");
        Calls.due(6, cutter, "split", 1);
        Calls.due(146, cutter, "split", 6);
        Sentences.promise(2, "INVALID_ARGUMENT if steps is out of range");
        cutter.lose(0);
        Calls.dueInvalid(cutter, "split", 0, 7, -1, -2);
        Calls.due(6, cutter, "count", 0);
        Calls.due(1, cutter, "count", 18);
    }

    private static void setRadius() {
        Sentences.promise(3, "Sets the radius");
        GeodesicCutter cutter = new GeodesicCutter();
        cutter.setRadius(1999);
        Calls.due(1999, cutter, "count", 5);
        Calls.due(1999, cutter, "strutOf", 4, 3);
        Sentences.promise(3, "Returns the previous radius");
        Calls.due(1999, cutter, "setRadius", 1999);
        Sentences.promise(3, "`radius`: 10 to 2000");
        Calls.due(1999, cutter, "setRadius", 10);
        Calls.due(10, cutter, "setRadius", 2000);
        Calls.due(2000, cutter, "setRadius", 11);
        Sentences.promise(3, "INVALID_ARGUMENT if radius is out of range");
        Calls.dueInvalid(cutter, "setRadius", 9, 2001, 0, -10, -2000);
        Calls.due(11, cutter, "count", 5);
        // A strut may become longer than a bar.
        cutter.setStock(100, 0);
        Calls.due(11, cutter, "setRadius", 2000);
    }

    private static void cutAt() {
        for (int f = 1; f <= Balls.MOST_STEPS; f++) {
            GeodesicCutter cutter = Balls.of(f);
            int kept = 0;
            for (int line = f; line >= -f; line--) {
                kept += Balls.hubsAtHeight(f, line);
                Sentences.promise(4, "Returns the number of hubs that are kept then");
                Calls.due(kept, cutter, "cutAt", line);
                Sentences.promise(4, "Sets the cut line");
                Calls.due(line, cutter, "count", 6);
            }
            Sentences.promise(4, "`line`: -f to f");
            Calls.due(1, cutter, "cutAt", f);
            Calls.due(4 * f * f + 2, cutter, "cutAt", -f);
            Sentences.promise(4, "INVALID_ARGUMENT if line is out of range");
            Calls.dueInvalid(cutter, "cutAt", f + 1, -f - 1);
            Calls.due(-f, cutter, "count", 6);
        }
    }

    private static void setStock() {
        Sentences.promise(5, "Sets the stock");
        GeodesicCutter cutter = Balls.of(1);
        cutter.setStock(1414, 20);
        Calls.due(1414, cutter, "count", 14);
        Calls.due(20, cutter, "count", 15);
        Sentences.promise(5, "Returns the number of bars that are needed then");
        // Twelve struts of 1414: the bars of the new stock are told, not those of the old one.
        Calls.due(6, cutter, "setStock", 2828, 0);
        Calls.due(12, cutter, "setStock", 2828, 1);
        Calls.due(1, cutter, "setStock", 16968, 0);
        Calls.due(2, cutter, "setStock", 16967, 0);
        cutter.cutAt(1);
        Calls.due(0, cutter, "setStock", 100, 0);
        Sentences.promise(5, "NOT_POSSIBLE if a kept strut would be longer than a bar");
        cutter.cutAt(-1);
        Calls.due(12, cutter, "setStock", 1414, 0);
        Calls.due(Check.NOT_POSSIBLE, cutter, "setStock", 1413, 0);
        Calls.due(1414, cutter, "count", 14);
        // Missing struts are kept, too: these four are the ones of 1000.
        cutter = Balls.dome(2, 1);
        Balls.lose(cutter, 4, 5, 9, 13);
        Calls.due(Check.NOT_POSSIBLE, cutter, "setStock", 999, 0);
        Calls.due(8, cutter, "setStock", 1000, 0);
    }

    private static void setStockRanges() {
        GeodesicCutter cutter = Balls.of(1);
        cutter.setRadius(10);
        Sentences.promise(5, "`bar`: 100 to 20000");
        Calls.due(2, cutter, "setStock", 100, 0);
        Calls.due(1, cutter, "setStock", 20000, 0);
        Calls.due(Check.INVALID, cutter, "setStock", 99, 0);
        Calls.due(Check.INVALID, cutter, "setStock", 20001, 0);
        Sentences.promise(5, "`saw`: 0 to 20");
        Calls.due(4, cutter, "setStock", 100, 20);
        Calls.due(2, cutter, "setStock", 100, 0);
        Calls.due(Check.INVALID, cutter, "setStock", 100, -1);
        Calls.due(Check.INVALID, cutter, "setStock", 100, 21);
        Sentences.promise(5, "INVALID_ARGUMENT if an argument is out of range");
        for (int far : new int[] {Integer.MIN_VALUE, Integer.MAX_VALUE}) {
            Calls.due(Check.INVALID, cutter, "setStock", far, 0);
            Calls.due(Check.INVALID, cutter, "setStock", 100, far);
        }
        Calls.due(Check.INVALID, cutter, "setStock", 0, 0);
        Calls.due(100, cutter, "count", 14);
        Calls.due(0, cutter, "count", 15);
    }

    /** What count answers, with the quotes of the document, on a new ball, a dome and the smallest dome. */
    private static final String[] COUNTED = {
        "0: f", "1: hubs", "2: struts", "3: faces", "4: kinds", "5: the radius", "6: the cut line", "7: kept hubs",
        "8: kept struts", "9: kept faces", "10: border hubs", "11: missing struts that are kept", "12: holes",
        "13: kept hubs minus kept struts plus kept faces", "14: the length of a bar", "15: the loss of a cut",
        "16: states in the history", "17: the length of the text", "18: missing struts"
    };
    private static final int[] ON_A_DOME = {2, 18, 48, 32, 2, 2000, 0, 13, 28, 16, 8, 28, 16, 1, 20000, 20, 6, 80, 40};
    private static final int[] ON_ONE_HUB = {6, 146, 432, 288, 9, 10, 6, 1, 0, 0, 1, 0, 0, 1, 100, 0, 5, 1, 1};

    private static void count() {
        GeodesicCutter dome = Balls.dome(2, 0);
        Check.typeAll(dome, "x".repeat(80));
        dome.setRadius(2000);
        dome.setStock(20000, 20);
        // The first 39 struts are the 28 kept ones and 11 others.
        Balls.loseFirst(dome, 39);
        dome.lose(47);
        GeodesicCutter oneHub = Balls.dome(6, 6);
        oneHub.setRadius(10);
        oneHub.setStock(100, 0);
        oneHub.lose(431);
        oneHub.type(32);
        for (int what = 0; what < COUNTED.length; what++) {
            Sentences.promise(6, COUNTED[what]);
            Calls.due(ON_A_DOME[what], dome, "count", what);
            Calls.due(ON_ONE_HUB[what], oneHub, "count", what);
        }
    }

    private static void countRange() {
        Sentences.promise(6, "Returns a number");
        GeodesicCutter cutter = new GeodesicCutter();
        Calls.due(2, cutter, "count", 0);
        Sentences.promise(6, "Returns the number");
        // A cut line is no error.
        Calls.due(-2, cutter, "count", 6);
        Sentences.promise(6, "INVALID_ARGUMENT if what is out of range");
        Calls.dueInvalid(cutter, "count", -1, 19);
        Calls.due(0, cutter, "count", 18);
    }

    private static void undo() {
        Sentences.promise(7, "NOT_POSSIBLE if it is empty");
        GeodesicCutter cutter = new GeodesicCutter();
        Calls.due(Check.NOT_POSSIBLE, cutter, "undo");
        Sentences.promise(7, "Restores the latest state of the history, which is removed from it");
        cutter.setRadius(10);
        cutter.setRadius(2000);
        cutter.undo();
        Calls.due(10, cutter, "count", 5);
        Calls.due(1, cutter, "count", 16);
        // What is restored is no change: the next change comes behind what is left.
        cutter.setRadius(20);
        cutter.undo();
        Calls.due(10, cutter, "count", 5);
        cutter.undo();
        Calls.due(1000, cutter, "count", 5);
        Calls.due(0, cutter, "count", 16);
        Calls.due(Check.NOT_POSSIBLE, cutter, "undo");
        Sentences.promise(7, "Returns the number of states that are left in the history");
        for (int i = 0; i < 8; i++) {
            cutter.mend();
        }
        for (int left = 5; left >= 0; left--) {
            Calls.due(left, cutter, "undo");
        }
        Calls.due(Check.NOT_POSSIBLE, cutter, "undo");
    }

    private static void undoOfSteps() {
        Sentences.promise(7, "Restores the latest state of the history");
        GeodesicCutter cutter = Balls.dome(6, 3);
        cutter.lose(431);
        cutter.split(1);
        Calls.due(Check.INVALID, cutter, "hub", 145, 2);
        Calls.due(3, cutter, "undo");
        Calls.due(-6, cutter, "hub", 145, 2);
        Calls.due(145, cutter, "strutOf", 431, 1);
        Calls.due(1, cutter, "strutOf", 431, 5);
        Calls.due(145, cutter, "face", 287, 2);
        Calls.due(9, cutter, "count", 4);
        Calls.due(3, cutter, "count", 6);
    }

    static void all() {
        newObject();
        split();
        splitLeavesNothingBehind();
        splitRange();
        setRadius();
        cutAt();
        setStock();
        setStockRanges();
        count();
        countRange();
        undo();
        undoOfSteps();
    }
}
