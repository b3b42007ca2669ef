/** The sentences of promises 8 to 12, at their boundaries. */
final class HubsSentences {
    private static final int[] OUTSIDE = {Integer.MIN_VALUE, Integer.MAX_VALUE};

    private HubsSentences() {
    }

    private static void hub() {
        Sentences.promise(8, "Returns a property of a hub");
        GeodesicCutter cutter = Balls.of(6);
        Calls.due(6, cutter, "hub", 0, 2);
        Sentences.promise(8, "Returns the property");
        // Negative coordinates are no errors.
        Calls.due(-6, cutter, "hub", 145, 2);
        Sentences.promise(8, "`hub`: number of the hub");
        Calls.due(Check.INVALID, cutter, "hub", -1, 2);
        Calls.due(Check.INVALID, cutter, "hub", 146, 2);
        cutter.split(1);
        Calls.due(-1, cutter, "hub", 5, 2);
        Calls.due(Check.INVALID, cutter, "hub", 6, 2);
        Sentences.promise(8, "INVALID_ARGUMENT if an argument is out of range");
        Calls.dueInvalidPairs(cutter, "hub", 6, 9);
        Calls.due(Check.INVALID, cutter, "hub", 6, 9);
    }

    private static void hubPlace() {
        int[][] rows = {{0, 0, 0, 6}, {72, -6, 0, 0}, {73, 6, 0, 0}, {61, 0, -6, 0}, {84, 0, 6, 0}, {145, 0, 0, -6}};
        GeodesicCutter cutter = Balls.of(6);
        for (int[] row : rows) {
            Sentences.promise(8, "`what`: 0: x");
            Calls.due(row[1], cutter, "hub", row[0], 0);
            Sentences.promise(8, "1: y");
            Calls.due(row[2], cutter, "hub", row[0], 1);
            Sentences.promise(8, "2: z");
            Calls.due(row[3], cutter, "hub", row[0], 2);
        }
    }

    private static void hubLinks() {
        Sentences.promise(8, "3: how many hubs are joined to it");
        for (int f = 1; f <= Balls.MOST_STEPS; f++) {
            int[] links = Balls.hubRow(f, 3);
            int[] squares = Balls.hubRow(f, 7);
            for (int hub = 0; hub < links.length; hub++) {
                // The six corners of the octahedron alone have four.
                Check.due("hub(" + hub + ", 3)", links[hub], squares[hub] == f * f ? 4 : 6);
            }
        }
        GeodesicCutter cutter = Balls.dome(2, 2);
        cutter.lose(0);
        Calls.due(4, cutter, "hub", 0, 3);
        Calls.due(6, cutter, "hub", 1, 3);
    }

    private static void hubDegree() {
        Sentences.promise(8, "4: its degree, 0 if it is not kept");
        GeodesicCutter cutter = Balls.dome(2, 1);
        Calls.due(4, cutter, "hub", 0, 4);
        Calls.due(3, cutter, "hub", 1, 4);
        // Hub 5 is joined to hub 1, which is kept.
        Calls.due(0, cutter, "hub", 5, 4);
        Balls.lose(cutter, 0, 1, 2, 3);
        Calls.due(0, cutter, "hub", 0, 4);
        Calls.due(2, cutter, "hub", 1, 4);
        cutter.cutAt(2);
        Calls.due(0, cutter, "hub", 0, 4);
        Calls.due(0, cutter, "hub", 1, 4);
    }

    private static void hubOnTheLine() {
        GeodesicCutter cutter = Balls.dome(2, 0);
        Sentences.promise(8, "5: 1 if it is kept, otherwise 0");
        Calls.due(1, cutter, "hub", 4, 5);
        Calls.due(1, cutter, "hub", 12, 5);
        Calls.due(0, cutter, "hub", 13, 5);
        Sentences.promise(8, "6: 1 if it is on the border, otherwise 0");
        Calls.due(0, cutter, "hub", 4, 6);
        Calls.due(1, cutter, "hub", 5, 6);
        Calls.due(1, cutter, "hub", 12, 6);
        Calls.due(0, cutter, "hub", 13, 6);
        cutter.cutAt(2);
        Calls.due(1, cutter, "hub", 0, 6);
        Calls.due(0, cutter, "hub", 1, 6);
        cutter.cutAt(-2);
        Calls.due(0, cutter, "hub", 17, 6);
        // Missing struts do not matter for the border.
        cutter.cutAt(1);
        Balls.lose(cutter, 6, 7, 8);
        Calls.due(1, cutter, "hub", 1, 6);
    }

    private static void hubSquares() {
        Sentences.promise(8, "7: x * x + y * y + z * z");
        int[][] rows = {{6, 0, 0, 36}, {-5, 1, 0, 26}, {2, -2, 2, 12}, {1, 2, -3, 14}, {0, 3, 3, 18}};
        GeodesicCutter cutter = Balls.of(6);
        for (int[] row : rows) {
            Calls.due(row[3], cutter, "hub", cutter.hubAt(row[0], row[1], row[2]), 7);
        }
        Calls.due(6, cutter, "split", 1);
        Calls.due(1, cutter, "hub", 0, 7);
    }

    private static void hubsAlike() {
        Sentences.promise(8, "8: how many hubs are like it by mirrors and turns (with the same three absolute "
                + "values in any order), itself included");
        int[][] rows = {
            {0, 0, 1, 6}, {0, 0, -2, 6}, {1, -1, 0, 12}, {1, 1, 1, 8}, {1, 0, -2, 24}, {2, 1, 1, 24},
            {2, 2, 0, 12}, {0, -5, 0, 6}, {2, 2, 1, 24}, {3, 2, 0, 24}, {3, 2, 1, 48}, {1, 2, -3, 48},
            {-2, 2, -2, 8}, {3, 3, 0, 12}, {4, 1, 1, 24}, {0, 4, 2, 24}, {0, 6, 0, 6}
        };
        for (int[] row : rows) {
            GeodesicCutter cutter = Balls.of(Math.abs(row[0]) + Math.abs(row[1]) + Math.abs(row[2]));
            Calls.due(row[3], cutter, "hub", cutter.hubAt(row[0], row[1], row[2]), 8);
        }
        GeodesicCutter cutter = Balls.dome(2, 2);
        Calls.due(6, cutter, "hub", 0, 8);
    }

    private static void hubAt() {
        Sentences.promise(9, "Returns the hub at a point");
        GeodesicCutter cutter = Balls.of(6);
        Calls.due(84, cutter, "hubAt", 0, 6, 0);
        Sentences.promise(9, "Returns the hub");
        for (int hub = 0; hub < 100; hub++) {
            Calls.due(hub, cutter, "hubAt", cutter.hub(hub, 0), cutter.hub(hub, 1), cutter.hub(hub, 2));
        }
        Sentences.promise(9, "`x`: -6 to 6");
        Calls.due(72, cutter, "hubAt", -6, 0, 0);
        Calls.due(73, cutter, "hubAt", 6, 0, 0);
        Sentences.promise(9, "`y`: -6 to 6");
        Calls.due(61, cutter, "hubAt", 0, -6, 0);
        Calls.due(84, cutter, "hubAt", 0, 6, 0);
        Sentences.promise(9, "`z`: -6 to 6");
        Calls.due(145, cutter, "hubAt", 0, 0, -6);
        Calls.due(0, cutter, "hubAt", 0, 0, 6);
        Sentences.promise(9, "INVALID_ARGUMENT if an argument is out of range");
        for (int wrong : new int[] {-7, 7, OUTSIDE[0], OUTSIDE[1]}) {
            Calls.due(Check.INVALID, cutter, "hubAt", wrong, 0, 0);
            Calls.due(Check.INVALID, cutter, "hubAt", 0, wrong, 0);
            Calls.due(Check.INVALID, cutter, "hubAt", 0, 0, wrong);
        }
        Sentences.promise(9, "NOT_FOUND if there is none");
        for (int[] point : new int[][] {{0, 0, 0}, {0, 0, 5}, {6, 6, 6}, {-6, -6, -6}, {6, 0, 1}, {5, 0, 0}}) {
            Calls.due(Check.NOT_FOUND, cutter, "hubAt", point);
        }
        cutter.split(1);
        Calls.due(Check.NOT_FOUND, cutter, "hubAt", 6, 0, 0);
        Calls.due(Check.NOT_FOUND, cutter, "hubAt", 0, 0, 0);
        cutter.cutAt(1);
        Calls.due(5, cutter, "hubAt", 0, 0, -1);
    }

    private static void joined() {
        GeodesicCutter cutter = new GeodesicCutter();
        Sentences.promise(10, "Returns a hub that is joined to a hub");
        Sentences.promise(10, "`index`: 0 for the lowest one, and so on");
        int[] atSeven = {1, 3, 5, 9, 13, 15};
        for (int i = 0; i < atSeven.length; i++) {
            Calls.due(atSeven[i], cutter, "joined", 7, i);
        }
        Sentences.promise(10, "Returns the hub");
        Calls.due(16, cutter, "joined", 17, 3);
        Sentences.promise(10, "NOT_FOUND if there are not so many");
        Calls.due(Check.NOT_FOUND, cutter, "joined", 7, 6);
        Calls.due(4, cutter, "joined", 0, 3);
        Calls.due(Check.NOT_FOUND, cutter, "joined", 0, 4);
        Calls.due(Check.NOT_FOUND, cutter, "joined", 0, 5);
        Calls.due(Check.NOT_FOUND, cutter, "joined", 17, 4);
        Calls.due(Check.NOT_FOUND, cutter, "joined", 17, Integer.MAX_VALUE);
        Sentences.promise(10, "INVALID_ARGUMENT if there is no such hub or index is negative");
        Calls.due(Check.INVALID, cutter, "joined", 0, -1);
        Calls.due(Check.INVALID, cutter, "joined", 0, Integer.MIN_VALUE);
        Sentences.promise(10, "`hub`: number of the hub");
        for (int wrong : new int[] {-1, 18, OUTSIDE[0], OUTSIDE[1]}) {
            Calls.due(Check.INVALID, cutter, "joined", wrong, 0);
            Calls.due(Check.INVALID, cutter, "joined", wrong, 7);
        }
        // Hubs stay joined if they are not kept, or the strut is missing.
        cutter.cutAt(2);
        cutter.lose(0);
        Calls.due(1, cutter, "joined", 0, 0);
        Calls.due(13, cutter, "joined", 17, 0);
    }

    private static void joinedAscend() {
        Sentences.promise(10, "`index`: 0 for the lowest one, and so on");
        for (int f = 1; f <= 3; f++) {
            GeodesicCutter cutter = Balls.of(f);
            int[] links = Balls.hubRow(f, 3);
            for (int hub = 0; hub < links.length; hub++) {
                for (int i = 1; i < links[hub]; i++) {
                    if (cutter.joined(hub, i - 1) >= cutter.joined(hub, i)) {
                        Check.fail("joined(" + hub + ", " + i + ") of " + f + " steps does not ascend");
                    }
                }
            }
        }
    }

    private static void led() {
        Sentences.promise(11, "Returns the hub to which a hub is led");
        for (int f = 1; f <= 4; f++) {
            GeodesicCutter cutter = Balls.of(f);
            int[][] at = {Balls.hubRow(f, 0), Balls.hubRow(f, 1), Balls.hubRow(f, 2)};
            for (int hub = 0; hub < at[0].length; hub++) {
                dueLed(cutter, at, hub);
            }
        }
        GeodesicCutter cutter = Balls.dome(6, 6);
        Sentences.promise(11, "Returns the hub");
        Calls.due(145, cutter, "led", 0, 5);
        Calls.due(0, cutter, "led", 0, 0);
        Sentences.promise(11, "`hub`: number of the hub");
        for (int wrong : new int[] {-1, 146, OUTSIDE[0], OUTSIDE[1]}) {
            Calls.due(Check.INVALID, cutter, "led", wrong, 0);
        }
        Sentences.promise(11, "INVALID_ARGUMENT if an argument is out of range");
        for (int wrong : new int[] {-1, 6, OUTSIDE[0], OUTSIDE[1]}) {
            Calls.due(Check.INVALID, cutter, "led", 145, wrong);
        }
    }

    private static void dueLed(GeodesicCutter cutter, int[][] at, int hub) {
        int x = at[0][hub];
        int y = at[1][hub];
        int z = at[2][hub];
        Sentences.promise(11, "`way`: 0, 1, 2: mirrored, x, y or z with the opposite sign");
        Calls.due(find(at, -x, y, z), cutter, "led", hub, 0);
        Calls.due(find(at, x, -y, z), cutter, "led", hub, 1);
        Calls.due(find(at, x, y, -z), cutter, "led", hub, 2);
        Sentences.promise(11, "3: turned, (x, y, z) to (-y, x, z)");
        Calls.due(find(at, -y, x, z), cutter, "led", hub, 3);
        Sentences.promise(11, "4: turned, (x, y, z) to (y, z, x)");
        Calls.due(find(at, y, z, x), cutter, "led", hub, 4);
        Sentences.promise(11, "5: the opposite one");
        Calls.due(find(at, -x, -y, -z), cutter, "led", hub, 5);
    }

    private static int find(int[][] at, int x, int y, int z) {
        for (int hub = 0; hub < at[0].length; hub++) {
            if (at[0][hub] == x && at[1][hub] == y && at[2][hub] == z) {
                return hub;
            }
        }
        return -1;
    }

    private static void way() {
        Sentences.promise(12, "Returns the fewest struts on a way between two hubs");
        for (int f = 1; f <= Balls.MOST_STEPS; f++) {
            GeodesicCutter cutter = Balls.of(f);
            Calls.due(2 * f, cutter, "way", 0, Balls.hubs(f) - 1);
            Calls.due(2 * f, cutter, "way", Balls.hubs(f) - 1, 0);
            Calls.due(1, cutter, "way", 0, 1);
        }
        Sentences.promise(12, "over struts that are kept and not missing");
        // Round each strut of the ball leads a way of two others.
        GeodesicCutter cutter = new GeodesicCutter();
        int[] low = Balls.strutRow(2, 0);
        int[] high = Balls.strutRow(2, 1);
        for (int strut = 0; strut < low.length; strut++) {
            Calls.due(1, cutter, "way", low[strut], high[strut]);
            cutter.lose(strut);
            Calls.due(2, cutter, "way", low[strut], high[strut]);
            Calls.due(2, cutter, "way", high[strut], low[strut]);
            cutter.put(strut);
        }
        // The way from hub 0 to hub 1 leads by the lowest hub, which is not kept with the line 0.
        cutter.split(1);
        Balls.lose(cutter, 0, 4, 5);
        Calls.due(3, cutter, "way", 0, 1);
        cutter.cutAt(0);
        Calls.due(Check.NOT_FOUND, cutter, "way", 0, 1);
    }

    private static void longWay() {
        Sentences.promise(12, "Returns the fewest struts on a way between two hubs");
        // What is left of the octahedron is one line: 0-1, 1-3, 3-4, 4-2, 2-5.
        GeodesicCutter cutter = Balls.of(1);
        Balls.lose(cutter, 1, 2, 3, 4, 6, 10, 11);
        int[] line = {0, 1, 3, 4, 2, 5};
        for (int from = 0; from < line.length; from++) {
            for (int to = 0; to < line.length; to++) {
                Calls.due(Math.abs(from - to), cutter, "way", line[from], line[to]);
            }
        }
        cutter.lose(9);
        Calls.due(2, cutter, "way", 0, 3);
        Calls.due(2, cutter, "way", 4, 5);
        Calls.due(Check.NOT_FOUND, cutter, "way", 3, 4);
        Calls.due(Check.NOT_FOUND, cutter, "way", 0, 5);
    }

    private static void wayErrors() {
        GeodesicCutter cutter = Balls.dome(2, 1);
        Sentences.promise(12, "Returns the number, 0 for the same hub");
        Calls.due(0, cutter, "way", 0, 0);
        Calls.due(0, cutter, "way", 4, 4);
        Calls.due(2, cutter, "way", 1, 4);
        Sentences.promise(12, "NOT_POSSIBLE if one of them is not kept");
        Calls.due(Check.NOT_POSSIBLE, cutter, "way", 4, 5);
        Calls.due(Check.NOT_POSSIBLE, cutter, "way", 5, 4);
        Calls.due(Check.NOT_POSSIBLE, cutter, "way", 5, 6);
        // Of a hub that is not kept to itself, too.
        Calls.due(Check.NOT_POSSIBLE, cutter, "way", 5, 5);
        Calls.due(Check.NOT_POSSIBLE, cutter, "way", 17, 17);
        Sentences.promise(12, "NOT_FOUND if there is no way");
        Balls.lose(cutter, 0, 4);
        Calls.due(1, cutter, "way", 1, 3);
        cutter.lose(5);
        Calls.due(Check.NOT_FOUND, cutter, "way", 1, 3);
        Calls.due(Check.NOT_FOUND, cutter, "way", 3, 1);
        Calls.due(0, cutter, "way", 1, 1);
        for (int wrong : new int[] {-1, 18, OUTSIDE[0], OUTSIDE[1]}) {
            Sentences.promise(12, "INVALID_ARGUMENT");
            Sentences.promise(12, "`from`: number of a hub");
            Calls.due(Check.INVALID, cutter, "way", wrong, 17);
            Sentences.promise(12, "`to`: number of a hub");
            Calls.due(Check.INVALID, cutter, "way", 17, wrong);
        }
    }

    static void all() {
        hub();
        hubPlace();
        hubLinks();
        hubDegree();
        hubOnTheLine();
        hubSquares();
        hubsAlike();
        hubAt();
        joined();
        joinedAscend();
        led();
        way();
        longWay();
        wayErrors();
    }
}
