/** The sentences of promises 21 and 22, at their boundaries. */
final class StockSentences {
    private StockSentences() {
    }

    private static final String[] TOLD = {
        "`what`: 0: bars", "1: the sum of what is left in them", "2: the greatest number of struts from one bar",
        "3: the sum of the lengths of all kept struts"
    };

    private static void dueStock(GeodesicCutter cutter, int... want) {
        for (int what = 0; what < want.length; what++) {
            Sentences.promise(21, TOLD[what]);
            Calls.due(want[what], cutter, "stock", what);
        }
    }

    private static void stock() {
        // Four kept struts of 1000 and four of 765.
        GeodesicCutter cutter = Balls.dome(2, 1);
        dueStock(cutter, 2, 2 * 6000 - 7060 - 8 * 3, 6, 7060);
        cutter.setStock(7060, 0);
        dueStock(cutter, 1, 0, 8, 7060);
        cutter.setStock(7059, 0);
        dueStock(cutter, 2, 764 + 7059 - 765, 7, 7060);
        cutter.setStock(1000, 20);
        dueStock(cutter, 8, 4 * 215, 1, 7060);
        cutter.setStock(1785, 20);
        dueStock(cutter, 4, 0, 2, 7060);
        // Missing struts are sawn, too.
        Balls.lose(cutter, 0, 4, 13);
        dueStock(cutter, 4, 0, 2, 7060);
        // Without a kept strut there is no bar.
        cutter.cutAt(2);
        dueStock(cutter, 0, 0, 0, 0);
    }

    private static void stockOfTheLargestBall() {
        Sentences.promise(21, "Tells about the bars for all kept struts");
        GeodesicCutter cutter = Balls.of(6);
        cutter.setRadius(2000);
        int sum = 0;
        for (int kind = 0; kind < 9; kind++) {
            sum += cutter.kind(kind, 0) * cutter.kind(kind, 2);
        }
        int longest = cutter.kind(8, 0);
        // A bar of just the longest strut gives one strut; there are 432 bars then.
        Calls.due(432, cutter, "setStock", longest, 20);
        Calls.due(432, cutter, "stock", 0);
        Calls.due(1, cutter, "stock", 2);
        Sentences.promise(21, "Returns the number");
        Calls.due(sum, cutter, "stock", 3);
        Calls.due(431, cutter, "strutOf", 431, 8);
    }

    private static void stockErrors() {
        GeodesicCutter cutter = Balls.dome(2, 1);
        cutter.setStock(1000, 0);
        Sentences.promise(21, "INVALID_ARGUMENT if what is out of range");
        Calls.dueInvalid(cutter, "stock", -1, 4);
        Sentences.promise(21, "NOT_POSSIBLE if a kept strut is longer than a bar");
        cutter.setRadius(1000);
        Calls.due(8, cutter, "stock", 0);
        cutter.setRadius(1001);
        // This stands for every what, the sum of the lengths among them.
        for (int what = 0; what <= 3; what++) {
            Calls.due(Check.NOT_POSSIBLE, cutter, "stock", what);
        }
        // Missing struts are kept all the same.
        Balls.lose(cutter, 4, 5, 9, 13);
        for (int what = 0; what <= 3; what++) {
            Calls.due(Check.NOT_POSSIBLE, cutter, "stock", what);
        }
        Calls.dueInvalid(cutter, "stock", -1, 4);
        cutter.cutAt(2);
        dueStock(cutter, 0, 0, 0, 0);
    }

    private static void radiusFor() {
        Sentences.promise(22, "Returns the greatest radius with which so many bars are enough");
        // Twelve struts of L: bars of 6000 with cuts of 3 give k if k * L + (k - 1) * 3 is at most 6000.
        int[][] rows = {{1, 352}, {2, 705}, {3, 1059}, {4, 1413}, {5, 1413}, {6, 2000}, {7, 2000}, {1000, 2000}};
        GeodesicCutter cutter = Balls.of(1);
        for (int[] row : rows) {
            Calls.due(row[1], cutter, "radiusFor", row[0]);
        }
        for (int[] row : new int[][] {{1, 352}, {2, 705}, {3, 1059}, {4, 1413}}) {
            cutter.setRadius(row[1]);
            Calls.due(row[0], cutter, "stock", 0);
            cutter.setRadius(row[1] + 1);
            Calls.due(row[0] < 4 ? row[0] + 1 : 6, cutter, "stock", 0);
        }
        Sentences.promise(22, "and no kept strut is longer than a bar");
        // With one strut a bar twelve bars are enough, but bars of 1500 end at 1060 times the root of 2.
        cutter.setRadius(1000);
        cutter.setStock(1500, 3);
        Calls.due(1061, cutter, "radiusFor", 12);
        Calls.due(1061, cutter, "radiusFor", 1000);
        cutter.setRadius(1061);
        Calls.due(12, cutter, "stock", 0);
        cutter.setRadius(1062);
        Calls.due(Check.NOT_POSSIBLE, cutter, "stock", 0);
    }

    private static void allElseStays() {
        Sentences.promise(22, "all else being as it is");
        GeodesicCutter cutter = Balls.of(1);
        Calls.due(352, cutter, "radiusFor", 1);
        // The radius itself does not matter, and missing struts are sawn.
        cutter.setRadius(2000);
        Calls.due(352, cutter, "radiusFor", 1);
        cutter.lose(0);
        Calls.due(352, cutter, "radiusFor", 1);
        Calls.due(2000, cutter, "count", 5);
        Calls.due(3, cutter, "count", 16);
    }

    private static void radiusForOnADome() {
        Sentences.promise(22, "all else being as it is");
        // The line 0 keeps eight struts: 8 * L + 7 * 3 is at most 6000 up to L = 747, and 8 * L up to 750.
        GeodesicCutter cutter = Balls.dome(1, 0);
        Calls.due(528, cutter, "radiusFor", 1);
        cutter.setStock(6000, 0);
        Calls.due(531, cutter, "radiusFor", 1);
        cutter.cutAt(1);
        Calls.due(2000, cutter, "radiusFor", 1);
        Calls.due(1000, cutter, "count", 5);
        Calls.due(4, cutter, "count", 16);
    }

    private static void radiusForRange() {
        GeodesicCutter cutter = Balls.of(1);
        cutter.setRadius(10);
        Sentences.promise(22, "`bars`: 1 to 1000");
        Calls.due(352, cutter, "radiusFor", 1);
        Calls.due(2000, cutter, "radiusFor", 1000);
        Sentences.promise(22, "INVALID_ARGUMENT if bars is out of range");
        Calls.dueInvalid(cutter, "radiusFor", 0, 1001, -1);
        Sentences.promise(22, "Returns the radius, 10 to 2000");
        // Twelve struts of 14 are 168; with the radius 11 they are 15 long.
        Calls.due(1, cutter, "setStock", 168, 0);
        Calls.due(10, cutter, "radiusFor", 1);
        Calls.due(1, cutter, "setStock", 179, 0);
        Calls.due(10, cutter, "radiusFor", 1);
        Calls.due(1, cutter, "setStock", 180, 0);
        Calls.due(11, cutter, "radiusFor", 1);
        Sentences.promise(22, "NOT_FOUND if there is none");
        Calls.due(2, cutter, "setStock", 167, 0);
        Calls.due(Check.NOT_FOUND, cutter, "radiusFor", 1);
        Calls.due(19, cutter, "radiusFor", 2);
        Calls.due(29, cutter, "radiusFor", 3);
    }

    static void all() {
        stock();
        stockOfTheLargestBall();
        stockErrors();
        radiusFor();
        allElseStays();
        radiusForOnADome();
        radiusForRange();
    }
}
