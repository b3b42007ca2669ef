/** The sentences of promises 13 to 20, at their boundaries. */
final class StrutsSentences {
    private static final int[] OUTSIDE = {Integer.MIN_VALUE, Integer.MAX_VALUE};

    private StrutsSentences() {
    }

    private static void strut() {
        Sentences.promise(13, "Returns the strut between two hubs");
        for (int f = 1; f <= 3; f++) {
            GeodesicCutter cutter = Balls.of(f);
            int[] low = Balls.strutRow(f, 0);
            int[] high = Balls.strutRow(f, 1);
            for (int s = 0; s < low.length; s++) {
                Calls.due(s, cutter, "strut", low[s], high[s]);
                Calls.due(s, cutter, "strut", high[s], low[s]);
            }
        }
        Sentences.promise(13, "Returns the strut");
        GeodesicCutter cutter = Balls.of(6);
        Calls.due(431, cutter, "strut", 144, 145);
        Calls.due(0, cutter, "strut", 1, 0);
        Sentences.promise(13, "NOT_FOUND if they are not joined");
        Calls.due(Check.NOT_FOUND, cutter, "strut", 0, 0);
        Calls.due(Check.NOT_FOUND, cutter, "strut", 145, 145);
        Calls.due(Check.NOT_FOUND, cutter, "strut", 0, 5);
        Calls.due(Check.NOT_FOUND, cutter, "strut", 145, 0);
        for (int wrong : new int[] {-1, 146, OUTSIDE[0], OUTSIDE[1]}) {
            Sentences.promise(13, "INVALID_ARGUMENT");
            Sentences.promise(13, "`one`: number of a hub");
            Calls.due(Check.INVALID, cutter, "strut", wrong, 0);
            Sentences.promise(13, "`other`: number of a hub");
            Calls.due(Check.INVALID, cutter, "strut", 0, wrong);
            Calls.due(Check.INVALID, cutter, "strut", wrong, wrong);
        }
        // Struts that are missing or not kept are still between their hubs.
        cutter.cutAt(6);
        cutter.lose(0);
        Calls.due(0, cutter, "strut", 0, 1);
        Calls.due(431, cutter, "strut", 145, 144);
    }

    private static final String[] STRUT_PROPERTIES = {
        "`what`: 0: its lower hub", "1: its higher hub", "2: its kind", "3: its length",
        "4: 1 if it is kept, otherwise 0", "5: 1 if it is missing, otherwise 0", "6: its N", "7: its D",
        "8: the bar from which it is sawn, from 0"
    };

    private static void dueStrut(GeodesicCutter cutter, int strut, int... want) {
        for (int what = 0; what < want.length; what++) {
            Sentences.promise(14, STRUT_PROPERTIES[what]);
            Calls.due(want[what], cutter, "strutOf", strut, what);
        }
    }

    private static void strutOf() {
        GeodesicCutter cutter = Balls.dome(2, 0);
        cutter.setStock(1000, 20);
        Balls.lose(cutter, 36, 40);
        // Twelve kept struts of 1000 are sawn ahead of sixteen of 765.
        dueStrut(cutter, 0, 0, 1, 0, 765, 1, 0, 2, 8, 12);
        dueStrut(cutter, 4, 1, 2, 1, 1000, 1, 0, 1, 4, 0);
        dueStrut(cutter, 36, 11, 12, 0, 765, 1, 1, 2, 8, 27);
        dueStrut(cutter, 40, 13, 14, 1, 1000, 0, 1, 1, 4, Check.NOT_FOUND);
        dueStrut(cutter, 47, 16, 17, 0, 765, 0, 0, 2, 8, Check.NOT_FOUND);
        Sentences.promise(14, "Returns the property");
        cutter.split(1);
        Calls.due(0, cutter, "strutOf", 0, 6);
        Calls.due(1, cutter, "strutOf", 0, 7);
        Sentences.promise(14, "Returns a property of a strut");
        Calls.due(5, cutter, "strutOf", 11, 1);
        Sentences.promise(14, "`strut`: number of the strut");
        Calls.due(Check.INVALID, cutter, "strutOf", -1, 0);
        Calls.due(Check.INVALID, cutter, "strutOf", 12, 0);
        Sentences.promise(14, "INVALID_ARGUMENT if an argument is out of range");
        Calls.dueInvalidPairs(cutter, "strutOf", 12, 9);
        Calls.due(Check.INVALID, cutter, "strutOf", 12, 8);
    }

    private static void barOfStrut() {
        Sentences.promise(14, "for 8 NOT_POSSIBLE if a kept strut is longer than a bar, "
                + "otherwise NOT_FOUND if it is not kept");
        GeodesicCutter cutter = Balls.dome(2, 1);
        cutter.setStock(1000, 0);
        Calls.due(0, cutter, "strutOf", 4, 8);
        Calls.due(Check.NOT_FOUND, cutter, "strutOf", 47, 8);
        cutter.setRadius(1001);
        // Just the struts of the greater kind are too long, but for all struts this is the answer.
        for (int strut : new int[] {0, 4, 40, 47}) {
            Calls.due(Check.NOT_POSSIBLE, cutter, "strutOf", strut, 8);
        }
        Calls.due(1001, cutter, "strutOf", 4, 3);
        Balls.lose(cutter, 4, 5, 9, 13);
        Calls.due(Check.NOT_POSSIBLE, cutter, "strutOf", 0, 8);
        cutter.cutAt(2);
        Calls.due(Check.NOT_FOUND, cutter, "strutOf", 4, 8);
    }

    private static void kind() {
        GeodesicCutter cutter = Balls.dome(2, 1);
        Balls.lose(cutter, 0, 1, 2, 3, 4, 40, 47);
        Sentences.promise(15, "Returns a property of a kind");
        Sentences.promise(15, "`what`: 0: its length");
        Calls.due(765, cutter, "kind", 0, 0);
        Calls.due(1000, cutter, "kind", 1, 0);
        Sentences.promise(15, "1: struts of it");
        Calls.due(24, cutter, "kind", 0, 1);
        Calls.due(24, cutter, "kind", 1, 1);
        Sentences.promise(15, "2: kept struts of it");
        Calls.due(4, cutter, "kind", 0, 2);
        Calls.due(4, cutter, "kind", 1, 2);
        Sentences.promise(15, "3: kept struts of it that are not missing");
        Calls.due(0, cutter, "kind", 0, 3);
        Calls.due(3, cutter, "kind", 1, 3);
        Sentences.promise(15, "4: its lowest strut");
        Calls.due(0, cutter, "kind", 0, 4);
        Calls.due(4, cutter, "kind", 1, 4);
        Sentences.promise(15, "Returns the property");
        cutter.cutAt(2);
        // There are kinds without a kept strut; their lowest one is told all the same.
        int[][] due = {{765, 24, 0, 0, 0}, {1000, 24, 0, 0, 4}};
        for (int k = 0; k < 2; k++) {
            for (int what = 0; what < 5; what++) {
                Calls.due(due[k][what], cutter, "kind", k, what);
            }
        }
        Sentences.promise(15, "`kind`: number of the kind");
        Calls.due(Check.INVALID, cutter, "kind", -1, 0);
        Calls.due(Check.INVALID, cutter, "kind", 2, 0);
        Sentences.promise(15, "INVALID_ARGUMENT if an argument is out of range");
        Calls.dueInvalidPairs(cutter, "kind", 2, 5);
    }

    private static void lowestStruts() {
        Sentences.promise(15, "4: its lowest strut");
        int[][] lowest = {{0}, {0, 4}, {0, 4, 7}, {0, 7, 4, 6, 20, 26}, {0, 7, 6, 4, 23, 22, 20, 26, 53},
            {0, 7, 6, 4, 23, 20, 26, 53, 55}};
        for (int f = 1; f <= Balls.MOST_STEPS; f++) {
            GeodesicCutter cutter = Balls.of(f);
            for (int kind = 0; kind < lowest[f - 1].length; kind++) {
                Calls.due(lowest[f - 1][kind], cutter, "kind", kind, 4);
            }
            Calls.due(Check.INVALID, cutter, "kind", lowest[f - 1].length, 4);
        }
    }

    private static void face() {
        GeodesicCutter cutter = Balls.dome(2, 1);
        Sentences.promise(16, "Returns a property of a face");
        Sentences.promise(16, "`what`: 0 to 2: its hubs, ascending");
        int[][] corners = {{0, 1, 2}, {0, 1, 3}, {0, 2, 4}, {0, 3, 4}, {1, 2, 6}};
        for (int face = 0; face < corners.length; face++) {
            for (int what = 0; what < 3; what++) {
                Calls.due(corners[face][what], cutter, "face", face, what);
            }
        }
        Sentences.promise(16, "3: 1 if it is kept, otherwise 0");
        Calls.due(1, cutter, "face", 3, 3);
        // Two of the hubs of face 4 are kept.
        Calls.due(0, cutter, "face", 4, 3);
        Sentences.promise(16, "4: 1 if it is closed, 0 if it is a hole or not kept");
        Calls.due(1, cutter, "face", 3, 4);
        Calls.due(0, cutter, "face", 4, 4);
        cutter.lose(13);
        Calls.due(0, cutter, "face", 3, 4);
        Calls.due(1, cutter, "face", 3, 3);
        Calls.due(1, cutter, "face", 2, 4);
        Sentences.promise(16, "Returns the property");
        Calls.due(0, cutter, "face", 0, 0);
        Sentences.promise(16, "`face`: number of the face");
        Calls.due(17, cutter, "face", 31, 2);
        Calls.due(Check.INVALID, cutter, "face", 32, 2);
        Calls.due(Check.INVALID, cutter, "face", -1, 2);
        Sentences.promise(16, "INVALID_ARGUMENT if an argument is out of range");
        Calls.dueInvalidPairs(cutter, "face", 32, 7);
    }

    private static void strutsOfFaces() {
        for (int f = 1; f <= Balls.MOST_STEPS; f++) {
            int[][] table = Balls.strutTable(f);
            int[] kind = Balls.strutRow(f, 2);
            int[] length = Balls.strutRow(f, 3);
            int[] low = Balls.faceRow(f, 0);
            int[] middle = Balls.faceRow(f, 1);
            int[] high = Balls.faceRow(f, 2);
            GeodesicCutter cutter = Balls.of(f);
            for (int face = 0; face < low.length; face++) {
                int a = table[low[face]][middle[face]];
                int b = table[low[face]][high[face]];
                int c = table[middle[face]][high[face]];
                Sentences.promise(16, "5: how many different kinds its struts have");
                int different = 1 + (kind[b] == kind[a] ? 0 : 1) + (kind[c] == kind[a] || kind[c] == kind[b] ? 0 : 1);
                Calls.due(different, cutter, "face", face, 5);
            }
            cutter = Balls.of(f);
            for (int face = 0; face < low.length; face++) {
                Sentences.promise(16, "6: the sum of their lengths");
                Calls.due(length[table[low[face]][middle[face]]] + length[table[low[face]][high[face]]]
                        + length[table[middle[face]][high[face]]], cutter, "face", face, 6);
            }
        }
    }

    private static void kindsOfFaces() {
        // Face 6 of four steps has the hubs 1, 5, 6: its struts are of three kinds.
        GeodesicCutter cutter = Balls.of(4);
        Sentences.promise(16, "5: how many different kinds its struts have");
        Calls.due(3, cutter, "face", 6, 5);
        Calls.due(2, cutter, "face", 0, 5);
        Calls.due(1, Balls.of(1), "face", 0, 5);
        Calls.due(1, Balls.of(2), "face", 4, 5);
        Sentences.promise(16, "6: the sum of their lengths");
        int sum = cutter.strutOf(cutter.strut(1, 5), 3) + cutter.strutOf(cutter.strut(1, 6), 3)
                + cutter.strutOf(cutter.strut(5, 6), 3);
        Calls.due(sum, cutter, "face", 6, 6);
        Calls.due(2 * 320 + 447, cutter, "face", 0, 6);
        // Lengths are rounded down one by one, and count if a strut is missing or not kept, too.
        cutter.split(1);
        cutter.setRadius(2000);
        cutter.lose(0);
        cutter.cutAt(1);
        Calls.due(3 * 2828, cutter, "face", 0, 6);
        Calls.due(1, cutter, "face", 0, 5);
        // Kinds of one length are different kinds: with the radius 10 two of the three are 4 long.
        cutter.split(4);
        cutter.setRadius(10);
        Calls.due(3, cutter, "face", 6, 5);
    }

    private static void lose() {
        Sentences.promise(17, "Loses a strut");
        GeodesicCutter cutter = new GeodesicCutter();
        Sentences.promise(17, "Returns how many kept faces become holes by this");
        Calls.due(2, cutter, "lose", 0);
        Calls.due(1, cutter, "strutOf", 0, 5);
        Calls.due(1, cutter, "lose", 1);
        Calls.due(1, cutter, "lose", 2);
        Calls.due(0, cutter, "lose", 3);
        cutter.cutAt(1);
        // The faces 1-2-6 and, below, 16-17 with its neighbours are not kept.
        Calls.due(0, cutter, "lose", 4);
        Calls.due(0, cutter, "lose", 47);
        Sentences.promise(17, "NOT_POSSIBLE if it is missing");
        Calls.due(Check.NOT_POSSIBLE, cutter, "lose", 0);
        Calls.due(Check.NOT_POSSIBLE, cutter, "lose", 47);
        Sentences.promise(17, "`strut`: number of the strut");
        Calls.due(Check.INVALID, cutter, "lose", 48);
        Calls.due(Check.INVALID, cutter, "lose", -1);
        Sentences.promise(17, "INVALID_ARGUMENT");
        Calls.dueInvalid(cutter, "lose", 48, -1);
        Calls.due(6, cutter, "count", 18);
    }

    private static void loseForty() {
        Sentences.promise(17, "LIMIT_REACHED if 40 struts are missing");
        GeodesicCutter cutter = new GeodesicCutter();
        Balls.loseFirst(cutter, 39);
        Calls.due(39, cutter, "count", 18);
        Calls.due(2, cutter, "lose", 47);
        Calls.due(40, cutter, "count", 18);
        Calls.due(Check.LIMIT, cutter, "lose", 39);
        Calls.due(Check.LIMIT, cutter, "lose", 46);
        Calls.due(0, cutter, "strutOf", 46, 5);
        // Struts that are not kept count, too.
        cutter.cutAt(2);
        Calls.due(0, cutter, "count", 11);
        Calls.due(Check.LIMIT, cutter, "lose", 39);
        Calls.due(0, cutter, "put", 47);
        Calls.due(0, cutter, "lose", 39);
        Calls.due(Check.LIMIT, cutter, "lose", 47);
        cutter.undo();
        Calls.due(0, cutter, "lose", 47);
    }

    private static void put() {
        Sentences.promise(18, "Puts a missing strut back");
        GeodesicCutter cutter = new GeodesicCutter();
        Balls.lose(cutter, 0, 1, 2, 3, 47);
        Sentences.promise(18, "Returns how many holes are closed by this");
        Calls.due(0, cutter, "put", 0);
        Calls.due(0, cutter, "strutOf", 0, 5);
        Calls.due(1, cutter, "put", 1);
        Calls.due(1, cutter, "put", 2);
        Calls.due(2, cutter, "put", 3);
        cutter.lose(4);
        cutter.cutAt(1);
        Calls.due(1, cutter, "put", 4);
        Calls.due(0, cutter, "put", 47);
        Sentences.promise(18, "NOT_POSSIBLE if it is not missing");
        Calls.due(Check.NOT_POSSIBLE, cutter, "put", 47);
        Calls.due(Check.NOT_POSSIBLE, cutter, "put", 0);
        Sentences.promise(18, "`strut`: number of the strut");
        Calls.due(Check.INVALID, cutter, "put", 48);
        Calls.due(Check.INVALID, cutter, "put", -1);
        Sentences.promise(18, "INVALID_ARGUMENT");
        Calls.dueInvalid(cutter, "put", 48, -1);
        Calls.due(0, cutter, "count", 18);
    }

    private static void mend() {
        Sentences.promise(19, "Returns how many there were");
        GeodesicCutter cutter = Balls.dome(2, 1);
        Calls.due(0, cutter, "mend");
        Balls.loseFirst(cutter, 40);
        Calls.due(40, cutter, "mend");
        Sentences.promise(19, "Puts all missing struts back");
        Calls.due(0, cutter, "count", 18);
        for (int strut = 0; strut < 48; strut++) {
            Calls.due(0, cutter, "strutOf", strut, 5);
        }
        Calls.due(Check.NOT_POSSIBLE, cutter, "put", 39);
        Calls.due(0, cutter, "mend");
        cutter.split(6);
        cutter.lose(431);
        Calls.due(1, cutter, "mend");
        Calls.due(0, cutter, "strutOf", 431, 5);
    }

    private static void worst() {
        Sentences.promise(20, "Returns the strut that is not missing whose loss would make the most holes, "
                + "of several the lowest one");
        GeodesicCutter cutter = new GeodesicCutter();
        Calls.due(0, cutter, "worst");
        cutter.lose(0);
        // Struts 1 and 2 are sides of one closed face each, strut 3 of two.
        Calls.due(3, cutter, "worst");
        cutter.lose(3);
        Calls.due(6, cutter, "worst");
        Sentences.promise(20, "Returns the strut");
        Calls.due(6, cutter, "worst");
        Sentences.promise(20, "kept struts alone, also if none would make a hole");
        // With the line 1 all four faces are holes; strut 1 is the lowest of what is left.
        cutter.cutAt(1);
        Calls.due(1, cutter, "worst");
        Balls.lose(cutter, 1, 2, 4, 5, 9);
        Calls.due(13, cutter, "worst");
        Sentences.promise(20, "NOT_FOUND if there is none");
        cutter.lose(13);
        Calls.due(8, cutter, "count", 11);
        Calls.due(Check.NOT_FOUND, cutter, "worst");
        cutter.cutAt(0);
        Calls.due(6, cutter, "worst");
        cutter.mend();
        Calls.due(0, cutter, "worst");
        cutter.cutAt(2);
        Calls.due(Check.NOT_FOUND, cutter, "worst");
    }

    private static void worstAtTheBorder() {
        Sentences.promise(20, "whose loss would make the most holes, of several the lowest one");
        // Of the kept faces two are at each strut of hub 0, and one at each strut of the rim.
        GeodesicCutter cutter = Balls.dome(3, 2);
        Balls.lose(cutter, 0);
        Calls.due(3, cutter, "worst");
        cutter.lose(3);
        Calls.due(1, cutter, "worst");
        // With 40 missing it is told all the same, though lose would refuse it.
        cutter.split(6);
        Balls.loseFirst(cutter, 40);
        int worst = cutter.worst();
        Calls.due(Check.LIMIT, cutter, "lose", worst);
        cutter.put(39);
        Calls.due(2, cutter, "lose", worst);
    }

    static void all() {
        strut();
        strutOf();
        barOfStrut();
        kind();
        lowestStruts();
        face();
        strutsOfFaces();
        kindsOfFaces();
        lose();
        loseForty();
        put();
        mend();
        worst();
        worstAtTheBorder();
    }
}
