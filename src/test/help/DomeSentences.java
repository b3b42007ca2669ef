/** The sentences under 'Dome, missing struts' and 'Stock' of the Terms, at their boundaries. */
final class DomeSentences {
    private DomeSentences() {
    }

    private static void cutLine() {
        Sentences.terms("The cut line is a number c from -f to f, initially -f");
        Calls.due(-2, new GeodesicCutter(), "count", 6);
        for (int f = 1; f <= Balls.MOST_STEPS; f++) {
            GeodesicCutter cutter = Balls.of(f);
            Calls.due(-f, cutter, "count", 6);
            Calls.due(1, cutter, "cutAt", f);
            Calls.due(f, cutter, "count", 6);
            Calls.dueInvalid(cutter, "cutAt", f + 1, -f - 1);
            Calls.due(f, cutter, "count", 6);
            Calls.due(Balls.hubs(f), cutter, "cutAt", -f);
            Calls.due(-f, cutter, "count", 6);
        }
    }

    private static void keptHubs() {
        for (int f = 1; f <= Balls.MOST_STEPS; f++) {
            int[] z = Balls.hubRow(f, 2);
            for (int line = -f; line <= f; line++) {
                GeodesicCutter cutter = Balls.dome(f, line);
                for (int hub = 0; hub < z.length; hub++) {
                    Sentences.terms("hubs with z of at least c are kept");
                    Calls.due(z[hub] >= line ? 1 : 0, cutter, "hub", hub, 5);
                    // With a line above the lowest hub, each hub at the line is joined to one below.
                    Sentences.terms("A kept hub is on the border if at least one hub "
                            + "that is joined to it is not kept");
                    Calls.due(line > -f && z[hub] == line ? 1 : 0, cutter, "hub", hub, 6);
                }
            }
        }
    }

    private static void keptStrutsAndFaces() {
        Sentences.terms("so are struts and faces all of whose hubs are kept");
        for (int f = 1; f <= 4; f++) {
            int[] z = Balls.hubRow(f, 2);
            int[][] ends = {Balls.strutRow(f, 0), Balls.strutRow(f, 1)};
            int[][] corners = {Balls.faceRow(f, 0), Balls.faceRow(f, 1), Balls.faceRow(f, 2)};
            for (int line = -f; line <= f; line++) {
                GeodesicCutter cutter = Balls.dome(f, line);
                for (int s = 0; s < ends[0].length; s++) {
                    int lowest = Math.min(z[ends[0][s]], z[ends[1][s]]);
                    Calls.due(lowest >= line ? 1 : 0, cutter, "strutOf", s, 4);
                }
                for (int i = 0; i < corners[0].length; i++) {
                    int lowest = Math.min(z[corners[0][i]], Math.min(z[corners[1][i]], z[corners[2][i]]));
                    Calls.due(lowest >= line ? 1 : 0, cutter, "face", i, 3);
                }
            }
        }
    }

    private static void missingStruts() {
        Sentences.terms("A strut can be missing, whether it is kept or not");
        GeodesicCutter cutter = Balls.dome(2, 1);
        Calls.due(2, cutter, "lose", 0);
        Calls.due(0, cutter, "lose", 47);
        Calls.due(1, cutter, "strutOf", 0, 4);
        Calls.due(1, cutter, "strutOf", 0, 5);
        Calls.due(0, cutter, "strutOf", 47, 4);
        Calls.due(1, cutter, "strutOf", 47, 5);
        Calls.due(2, cutter, "count", 18);
        Calls.due(1, cutter, "count", 11);
        // A strut stays missing while the line goes up and down over it.
        cutter.cutAt(2);
        Calls.due(1, cutter, "strutOf", 0, 5);
        Calls.due(0, cutter, "count", 11);
        cutter.cutAt(-2);
        Calls.due(2, cutter, "count", 11);
        Calls.due(4, cutter, "count", 12);
    }

    private static void holes() {
        Sentences.terms("A kept face is a hole if one of its struts is missing, otherwise it is closed");
        // Face 0 has the hubs 0, 1, 2 and the struts 0 (0-1), 1 (0-2), 4 (1-2).
        for (int strut : new int[] {0, 1, 4}) {
            GeodesicCutter cutter = new GeodesicCutter();
            Calls.due(1, cutter, "face", 0, 4);
            cutter.lose(strut);
            Calls.due(0, cutter, "face", 0, 4);
            Calls.due(2, cutter, "count", 12);
        }
        GeodesicCutter cutter = new GeodesicCutter();
        Balls.lose(cutter, 0, 1, 4);
        Calls.due(0, cutter, "face", 0, 4);
        Calls.due(4, cutter, "count", 12);
        Balls.lose(cutter, 2, 3, 5, 9, 13);
        cutter.cutAt(1);
        Calls.due(4, cutter, "count", 12);
        // A face that is not kept is neither a hole nor closed.
        cutter.cutAt(2);
        Calls.due(0, cutter, "count", 12);
        Calls.due(0, cutter, "face", 0, 4);
        Calls.due(0, cutter, "face", 31, 4);
    }

    private static void degree() {
        Sentences.terms("The degree of a hub is the number of kept struts at it that are not missing");
        GeodesicCutter cutter = Balls.dome(2, 1);
        // Of the struts of hub 1 those to 0, 2 and 3 are kept.
        Calls.due(3, cutter, "hub", 1, 4);
        Balls.lose(cutter, 6, 7, 8);
        Calls.due(3, cutter, "hub", 1, 4);
        cutter.lose(0);
        Calls.due(2, cutter, "hub", 1, 4);
        Balls.lose(cutter, 4, 5);
        Calls.due(0, cutter, "hub", 1, 4);
        Calls.due(1, cutter, "hub", 1, 5);
        cutter.cutAt(-2);
        Calls.due(0, cutter, "hub", 1, 4);
        cutter.mend();
        Calls.due(6, cutter, "hub", 1, 4);
    }

    private static void bars() {
        Sentences.terms("Bars have a length B (100 to 20000 millimetres, initially 6000)");
        GeodesicCutter cutter = Balls.dome(2, 2);
        Calls.due(6000, cutter, "count", 14);
        Calls.due(0, cutter, "setStock", 100, 3);
        Calls.due(Check.INVALID, cutter, "setStock", 99, 3);
        Calls.due(100, cutter, "count", 14);
        Calls.due(0, cutter, "setStock", 20000, 3);
        Calls.due(Check.INVALID, cutter, "setStock", 20001, 3);
        Calls.due(20000, cutter, "count", 14);
        Sentences.terms("each saw cut loses S millimetres (0 to 20, initially 3)");
        cutter = Balls.dome(2, 2);
        Calls.due(3, cutter, "count", 15);
        Calls.due(0, cutter, "setStock", 6000, 0);
        Calls.due(Check.INVALID, cutter, "setStock", 6000, -1);
        Calls.due(0, cutter, "count", 15);
        Calls.due(0, cutter, "setStock", 6000, 20);
        Calls.due(Check.INVALID, cutter, "setStock", 6000, 21);
        Calls.due(20, cutter, "count", 15);
    }

    /** The struts of each bar, one bar after the other. */
    private static void dueBars(GeodesicCutter cutter, int[]... bars) {
        Calls.due(bars.length, cutter, "stock", 0);
        for (int bar = 0; bar < bars.length; bar++) {
            for (int strut : bars[bar]) {
                Calls.due(bar, cutter, "strutOf", strut, 8);
            }
        }
    }

    private static void sawing() {
        Sentences.terms("All kept struts, missing or not, are sawn: by descending kinds, "
                + "those of one kind by ascending numbers");
        // The kept struts are 4, 5, 9, 13 with 1000 and then 0, 1, 2, 3 with 765.
        GeodesicCutter cutter = Balls.dome(2, 1);
        Calls.due(4, cutter, "setStock", 2000, 0);
        dueBars(cutter, new int[] {4, 5}, new int[] {9, 13}, new int[] {0, 1}, new int[] {2, 3});
        Balls.lose(cutter, 4, 0, 3);
        dueBars(cutter, new int[] {4, 5}, new int[] {9, 13}, new int[] {0, 1}, new int[] {2, 3});
        Sentences.terms("each comes from the first bar, in the order in which bars were begun, "
                + "that has still at least its length");
        Calls.due(4, cutter, "setStock", 1765, 0);
        dueBars(cutter, new int[] {4, 0}, new int[] {5, 1}, new int[] {9, 2}, new int[] {13, 3});
        Sentences.terms("otherwise a new bar is begun");
        Calls.due(6, cutter, "setStock", 1764, 0);
        dueBars(cutter, new int[] {4}, new int[] {5}, new int[] {9}, new int[] {13},
                new int[] {0, 1}, new int[] {2, 3});
        Calls.due(1, cutter, "setStock", 7060, 0);
        Calls.due(2, cutter, "setStock", 7059, 0);
        Calls.due(1, cutter, "strutOf", 3, 8);
        Calls.due(0, cutter, "strutOf", 2, 8);
    }

    private static void theFirstBarOfSeveral() {
        Sentences.terms("each comes from the first bar, in the order in which bars were begun");
        // Strut 0, of 320, comes from bar 0, which has 400, though bar 3 has just 354.
        GeodesicCutter cutter = Balls.dome(4, 2);
        Calls.due(5, cutter, "setStock", 3000, 3);
        dueBars(cutter, new int[] {20, 21, 25, 28, 31, 0}, new int[] {35, 39, 42, 6, 11, 15},
                new int[] {19, 4, 5, 9, 13, 7}, new int[] {8, 10, 12, 14, 16, 17, 1}, new int[] {18, 2, 3});
    }

    private static void whatIsLeft() {
        Sentences.terms("Behind each strut the bar has less by the length and by S, but at least 0");
        GeodesicCutter cutter = Balls.dome(2, 1);
        int[][] rows = {
            // Bar, saw, bars, left: four of 1000, and then four of 765.
            {1000, 0, 8, 4 * 235}, {1000, 20, 8, 4 * 215}, {1010, 20, 8, 4 * 225},
            {1020, 20, 8, 4 * 235}, {1021, 20, 8, 4 * 1 + 4 * 236}, {1785, 20, 4, 0}, {1800, 20, 4, 0},
            {1805, 20, 4, 0}, {1806, 20, 4, 4}, {1784, 20, 6, 4 * 764 + 2 * 214}, {1768, 3, 4, 0},
            {1767, 3, 6, 4 * 764 + 2 * (1767 - 1536)}
        };
        for (int[] row : rows) {
            Calls.due(row[2], cutter, "setStock", row[0], row[1]);
            Calls.due(row[3], cutter, "stock", 1);
        }
    }

    static void all() {
        cutLine();
        keptHubs();
        keptStrutsAndFaces();
        missingStruts();
        holes();
        degree();
        bars();
        sawing();
        theFirstBarOfSeveral();
        whatIsLeft();
    }
}
