import java.math.BigInteger;

/** The sentences under 'Hubs, struts, faces' and 'Lengths and kinds' of the Terms, at their boundaries. */
final class ShapeSentences {
    private ShapeSentences() {
    }

    private static void steps() {
        Sentences.terms("There are f steps (1 to 6, initially 2)");
        GeodesicCutter cutter = new GeodesicCutter();
        Calls.due(2, cutter, "count", 0);
        Calls.due(6, cutter, "split", 1);
        Calls.due(1, cutter, "count", 0);
        Calls.dueInvalid(cutter, "split", 0, 7);
        Calls.due(146, cutter, "split", 6);
        Calls.due(6, cutter, "count", 0);
    }

    private static void hubsArePoints() {
        Sentences.terms("A hub is a point (x, y, z) of whole numbers whose absolute values add up to f");
        for (int f = 1; f <= Balls.MOST_STEPS; f++) {
            for (int x = -6; x <= 6; x++) {
                GeodesicCutter cutter = Balls.of(f);
                for (int y = -6; y <= 6; y++) {
                    for (int z = -6; z <= 6; z++) {
                        boolean isHub = Math.abs(x) + Math.abs(y) + Math.abs(z) == f;
                        if (isHub != (cutter.hubAt(x, y, z) >= 0)) {
                            Check.fail("hubAt(" + x + ", " + y + ", " + z + ") of " + f + " steps");
                        }
                    }
                }
            }
        }
    }

    private static void orderOfHubs() {
        Sentences.terms("Hubs are numbered from 0 by descending z, those with equal z by ascending y, "
                + "those with equal y, too, by ascending x");
        for (int f = 1; f <= Balls.MOST_STEPS; f++) {
            int[] x = Balls.hubRow(f, 0);
            int[] y = Balls.hubRow(f, 1);
            int[] z = Balls.hubRow(f, 2);
            Check.due("z of hub 0", z[0], f);
            Check.due("z of the last hub", z[x.length - 1], -f);
            for (int hub = 1; hub < x.length; hub++) {
                int ahead = hub - 1;
                boolean isOrdered = z[ahead] > z[hub] || z[ahead] == z[hub]
                        && (y[ahead] < y[hub] || y[ahead] == y[hub] && x[ahead] < x[hub]);
                if (!isOrdered) {
                    Check.fail("hub " + hub + " of " + f + " steps is out of order");
                }
            }
        }
    }

    private static void countsOfHubsAndFaces() {
        for (int f = 1; f <= Balls.MOST_STEPS; f++) {
            GeodesicCutter cutter = Balls.of(f);
            Sentences.terms("There are 4 * f * f + 2 of them");
            Calls.due(4 * f * f + 2, cutter, "count", 1);
            Calls.due(-f, cutter, "hub", 4 * f * f + 1, 2);
            Calls.due(Check.INVALID, cutter, "hub", 4 * f * f + 2, 2);
            Sentences.terms("There are 8 * f * f of them");
            Calls.due(8 * f * f, cutter, "count", 3);
            Calls.due(4 * f * f + 1, cutter, "face", 8 * f * f - 1, 2);
            Calls.due(Check.INVALID, cutter, "face", 8 * f * f, 2);
        }
    }

    /** Checks whether a strut joins two points, whose values add up to the steps. */
    private static void dueJoined(boolean isJoined, int[] p, int[] q) {
        GeodesicCutter cutter = Balls.of(Math.abs(p[0]) + Math.abs(p[1]) + Math.abs(p[2]));
        int one = cutter.hubAt(p[0], p[1], p[2]);
        int other = cutter.hubAt(q[0], q[1], q[2]);
        if (one < 0 || other < 0 || isJoined != (cutter.strut(one, other) >= 0)) {
            Check.fail("strut(" + one + ", " + other + ")");
        }
    }

    private static void strutsJoin() {
        Sentences.terms("A strut joins two hubs if no coordinate is positive in one and negative in the other");
        dueJoined(true, new int[] {1, 1, 1}, new int[] {2, 0, 1});
        dueJoined(false, new int[] {1, 1, 1}, new int[] {2, 0, -1});
        dueJoined(false, new int[] {-1, 1, 1}, new int[] {2, 0, 1});
        dueJoined(true, new int[] {1, 0, 1}, new int[] {0, -1, 1});
        dueJoined(true, new int[] {1, 0, 0}, new int[] {0, -1, 0});
        dueJoined(false, new int[] {1, 0, 0}, new int[] {-1, 0, 0});
        Sentences.terms("their absolute values differ by 1 in just two coordinates, and are equal in the third");
        dueJoined(true, new int[] {3, 2, 1}, new int[] {2, 3, 1});
        dueJoined(true, new int[] {3, 2, 1}, new int[] {3, 1, 2});
        dueJoined(true, new int[] {3, 2, 1}, new int[] {3, 3, 0});
        dueJoined(false, new int[] {3, 2, 1}, new int[] {1, 4, 1});
        dueJoined(false, new int[] {3, 2, 1}, new int[] {1, 3, 2});
        dueJoined(false, new int[] {3, 2, 1}, new int[] {3, 2, -1});
        dueJoined(false, new int[] {3, 2, 1}, new int[] {3, 2, 1});
        dueJoined(false, new int[] {2, 0, 0}, new int[] {0, 0, 2});
    }

    private static void orderOfStruts() {
        Sentences.terms("Struts are numbered from 0 in the order of the lower of their two hubs, "
                + "those with the same lower hub in the order of the higher one");
        for (int f = 1; f <= Balls.MOST_STEPS; f++) {
            int[] low = Balls.strutRow(f, 0);
            int[] high = Balls.strutRow(f, 1);
            for (int s = 0; s < low.length; s++) {
                boolean isOrdered = low[s] < high[s] && (s == 0 || low[s - 1] < low[s]
                        || low[s - 1] == low[s] && high[s - 1] < high[s]);
                if (!isOrdered) {
                    Check.fail("strut " + s + " of " + f + " steps is out of order");
                }
            }
        }
    }

    private static void facesAreJoined() {
        for (int f = 1; f <= Balls.MOST_STEPS; f++) {
            int[] low = Balls.faceRow(f, 0);
            int[] middle = Balls.faceRow(f, 1);
            int[] high = Balls.faceRow(f, 2);
            Sentences.terms("A face is a set of three hubs that are joined by three struts");
            for (int i = 0; i < low.length; i++) {
                GeodesicCutter cutter = Balls.of(f);
                if (cutter.strut(low[i], middle[i]) < 0 || cutter.strut(low[i], high[i]) < 0
                        || cutter.strut(middle[i], high[i]) < 0) {
                    Check.fail("face " + i + " of " + f + " steps is not joined");
                }
            }
            Sentences.terms("Faces are numbered from 0 in the order of their lowest hubs, "
                    + "then of their middle ones, then of their highest ones");
            for (int i = 1; i < low.length; i++) {
                int ahead = i - 1;
                boolean isOrdered = low[ahead] < low[i] || low[ahead] == low[i]
                        && (middle[ahead] < middle[i] || middle[ahead] == middle[i] && high[ahead] < high[i]);
                if (!isOrdered) {
                    Check.fail("face " + i + " of " + f + " steps is out of order");
                }
            }
        }
    }

    private static void radius() {
        Sentences.terms("a ball with the radius R (10 to 2000 millimetres, initially 1000)");
        GeodesicCutter cutter = new GeodesicCutter();
        Calls.due(1000, cutter, "count", 5);
        Calls.due(1000, cutter, "setRadius", 10);
        Calls.due(10, cutter, "setRadius", 2000);
        Calls.dueInvalid(cutter, "setRadius", 9, 2001);
        Calls.due(2000, cutter, "count", 5);
    }

    private static void productsOfHubs() {
        Sentences.terms("let N be the sum x * x' + y * y' + z * z' of its hubs (never negative), "
                + "and D the product of (x * x + y * y + z * z) and the same of the other hub");
        for (int f = 1; f <= Balls.MOST_STEPS; f++) {
            int[][] at = {Balls.hubRow(f, 0), Balls.hubRow(f, 1), Balls.hubRow(f, 2)};
            int[] low = Balls.strutRow(f, 0);
            int[] high = Balls.strutRow(f, 1);
            int[] n = Balls.strutRow(f, 6);
            int[] d = Balls.strutRow(f, 7);
            for (int s = 0; s < n.length; s++) {
                Check.due("N of " + s, n[s], product(at, low[s], high[s]));
                Check.due("D of " + s, d[s], product(at, low[s], low[s]) * product(at, high[s], high[s]));
            }
        }
        // The least and the greatest ones: an edge of the octahedron, and a corner of six steps.
        GeodesicCutter cutter = Balls.of(1);
        Calls.due(0, cutter, "strutOf", 0, 6);
        Calls.due(1, cutter, "strutOf", 0, 7);
        cutter.split(6);
        Calls.due(30, cutter, "strutOf", 0, 6);
        Calls.due(936, cutter, "strutOf", 0, 7);
    }

    private static int product(int[][] at, int one, int other) {
        return at[0][one] * at[0][other] + at[1][one] * at[1][other] + at[2][one] * at[2][other];
    }

    private static boolean isLong(int length, int radius, int n, int d) {
        BigInteger twice = BigInteger.valueOf(2L * radius * radius);
        BigInteger rest = twice.subtract(BigInteger.valueOf((long) length * length));
        return rest.signum() >= 0 && rest.pow(2).multiply(BigInteger.valueOf(d))
                .compareTo(twice.pow(2).multiply(BigInteger.valueOf((long) n * n))) >= 0;
    }

    private static void lengths() {
        Sentences.terms("the greatest L of at least 0 for which (2 * R * R - L * L) is not negative "
                + "and its square times D is at least 4 * R * R * R * R * N * N");
        for (int f = 1; f <= Balls.MOST_STEPS; f++) {
            for (int radius : new int[] {10, 11, 17, 499, 1000, 1001, 1999, 2000}) {
                GeodesicCutter cutter = Balls.of(f);
                cutter.setRadius(radius);
                for (int kind = 0; kind < cutter.count(4); kind++) {
                    int strut = cutter.kind(kind, 4);
                    int length = cutter.strutOf(strut, 3);
                    int n = cutter.strutOf(strut, 6);
                    int d = cutter.strutOf(strut, 7);
                    if (length < 0 || !isLong(length, radius, n, d) || isLong(length + 1, radius, n, d)) {
                        Check.fail("length " + length + " of kind " + kind + ", " + f + " steps, R " + radius);
                    }
                }
            }
        }
    }

    private static void lengthsAtTheEdge() {
        Sentences.terms("(2 * R * R - L * L) is not negative");
        // For one step N is 0. The first rows miss a square by just 1: 12 * 12 * 2 = 17 * 17 - 1.
        int[][] rows = {{12, 16}, {70, 98}, {408, 576}, {29, 41}, {169, 239}, {985, 1393}, {2000, 2828}};
        GeodesicCutter cutter = Balls.of(1);
        for (int[] row : rows) {
            cutter.setRadius(row[0]);
            Calls.due(row[1], cutter, "strutOf", 0, 3);
            Calls.due(row[1], cutter, "kind", 0, 0);
        }
        Sentences.terms("its square times D is at least 4 * R * R * R * R * N * N");
        // For two steps the longer struts are just as long as the radius.
        cutter.split(2);
        for (int radius : new int[] {10, 11, 999, 1000, 2000}) {
            cutter.setRadius(radius);
            Calls.due(radius, cutter, "strutOf", 4, 3);
        }
        Sentences.terms("rounded down to a whole millimetre");
        // With N * N / D = 25 / 26 the length is 0.19707.. times the radius.
        cutter.split(6);
        cutter.setRadius(10);
        Calls.due(1, cutter, "strutOf", 0, 3);
        cutter.setRadius(2000);
        Calls.due(394, cutter, "strutOf", 0, 3);
    }

    /** Compares the fractions N * N / D of two struts. */
    private static int compareFractions(int[] n, int[] d, int one, int other) {
        return Integer.compare(n[one] * n[one] * d[other], n[other] * n[other] * d[one]);
    }

    private static void kinds() {
        Sentences.terms("Two struts are of one kind if N * N / D is the same fraction for both");
        for (int f = 1; f <= Balls.MOST_STEPS; f++) {
            int[] kind = Balls.strutRow(f, 2);
            int[] n = Balls.strutRow(f, 6);
            int[] d = Balls.strutRow(f, 7);
            for (int s = 0; s < kind.length; s++) {
                for (int t = 0; t < s; t++) {
                    if ((compareFractions(n, d, s, t) == 0) != (kind[s] == kind[t])) {
                        Check.fail("struts " + s + " and " + t + " of " + f + " steps");
                    }
                }
            }
        }
    }

    private static void orderOfKinds() {
        Sentences.terms("Kinds are numbered from 0 by descending fractions");
        for (int f = 1; f <= Balls.MOST_STEPS; f++) {
            GeodesicCutter cutter = Balls.of(f);
            int[] n = Balls.strutRow(f, 6);
            int[] d = Balls.strutRow(f, 7);
            Calls.due(0, cutter, "strutOf", cutter.kind(0, 4), 2);
            for (int kind = 1; kind < cutter.count(4); kind++) {
                int strut = cutter.kind(kind, 4);
                Calls.due(kind, cutter, "strutOf", strut, 2);
                if (compareFractions(n, d, cutter.kind(kind - 1, 4), strut) <= 0) {
                    Check.fail("kind " + kind + " of " + f + " steps is out of order");
                }
            }
        }
    }

    private static void kindsAscendInLength() {
        Sentences.terms("(so by ascending lengths)");
        int[] many = {1, 2, 3, 6, 9, 9};
        for (int f = 1; f <= Balls.MOST_STEPS; f++) {
            GeodesicCutter cutter = Balls.of(f);
            Calls.due(many[f - 1], cutter, "count", 4);
            cutter.setRadius(2000);
            for (int kind = 1; kind < many[f - 1]; kind++) {
                if (cutter.kind(kind - 1, 0) >= cutter.kind(kind, 0)) {
                    Check.fail("kind " + kind + " of " + f + " steps is not longer");
                }
            }
            // With the least radius lengths fall together, the kinds do not.
            cutter.setRadius(10);
            Calls.due(many[f - 1], cutter, "count", 4);
        }
    }

    static void all() {
        steps();
        hubsArePoints();
        orderOfHubs();
        countsOfHubsAndFaces();
        strutsJoin();
        orderOfStruts();
        facesAreJoined();
        radius();
        productsOfHubs();
        lengths();
        lengthsAtTheEdge();
        kinds();
        orderOfKinds();
        kindsAscendInLength();
    }
}
