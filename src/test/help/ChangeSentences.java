import java.util.Arrays;
import java.util.function.Consumer;

/** The sentences under 'Changes and errors' of the Terms, at their boundaries. */
final class ChangeSentences {
    private static final int INVALID = Check.INVALID;
    private static final int NOT_POSSIBLE = Check.NOT_POSSIBLE;
    private static final int LIMIT = Check.LIMIT;
    private static final int NOT_FOUND = Check.NOT_FOUND;

    private record Call(int want, String name, int... arguments) {
        void dueOf(GeodesicCutter cutter) {
            Calls.due(want, cutter, name, arguments);
        }
    }

    /** Changes that leave everything as it is. */
    private static final Call[] IDLE = {
        new Call(18, "split", 2), new Call(1000, "setRadius", 1000), new Call(18, "cutAt", -2),
        new Call(8, "setStock", 6000, 3), new Call(0, "loseAll"), new Call(0, "mend")
    };

    /** Changes of the dome that buildDome makes. */
    private static final Call[] CHANGES = {
        new Call(38, "split", 3), new Call(777, "setRadius", 10), new Call(1, "cutAt", 2),
        new Call(1, "setStock", 20000, 0), new Call(1, "lose", 9), new Call(2, "put", 0),
        new Call(2, "mend"), new Call(2, "loseAll")
    };

    private ChangeSentences() {
    }

    private static void buildDome(GeodesicCutter cutter) {
        cutter.setRadius(777);
        cutter.cutAt(1);
        cutter.setStock(5000, 7);
        Balls.lose(cutter, 0, 47);
        Check.typeAll(cutter, "1-2;2-4;");
    }

    /** Six changes, so that one more would drop the first state. */
    private static void buildOctahedron(GeodesicCutter cutter) {
        cutter.split(1);
        cutter.setRadius(900);
        cutter.setStock(1500, 7);
        cutter.cutAt(0);
        Balls.lose(cutter, 0, 11);
        Check.typeAll(cutter, "0-1;");
    }

    private static void buildTooLong(GeodesicCutter cutter) {
        cutter.split(1);
        cutter.setRadius(10);
        cutter.setStock(100, 20);
        cutter.cutAt(0);
        cutter.setRadius(2000);
    }

    private static void buildLonelyHub(GeodesicCutter cutter) {
        cutter.split(1);
        cutter.cutAt(0);
        Balls.lose(cutter, 0, 4, 5);
    }

    private static void buildForty(GeodesicCutter cutter) {
        Balls.loseFirst(cutter, 40);
        Check.typeAll(cutter, "13-14;");
    }

    private static void buildLongText(GeodesicCutter cutter) {
        Check.typeAll(cutter, "0-1;".repeat(20));
    }

    private static String counts(GeodesicCutter cutter) {
        StringBuilder told = new StringBuilder();
        for (int what = 0; what <= 18; what++) {
            if (what != 17) {
                told.append(cutter.count(what)).append(' ');
            }
        }
        return told.toString();
    }

    private static String snapshot(GeodesicCutter cutter) {
        StringBuilder told = new StringBuilder(counts(cutter));
        int struts = cutter.count(2);
        for (int strut = 0; strut < struts; strut++) {
            told.append(cutter.strutOf(strut, 5));
        }
        return told.toString();
    }

    /** The snapshot, the text, and what the history restores; this uses the history up. */
    private static String everything(GeodesicCutter cutter) {
        StringBuilder told = new StringBuilder(snapshot(cutter));
        told.append(' ').append(cutter.count(17)).append(' ').append(cutter.fault(0)).append(cutter.fault(1));
        while (cutter.undo() >= 0) {
            told.append('\n').append(counts(cutter));
        }
        return told.toString();
    }

    private static void changes() {
        Sentences.terms("The changes are the calls of split, setRadius, cutAt, setStock, lose, put, loseAll "
                + "and mend that return no error (also if nothing becomes different)");
        for (Call call : IDLE) {
            GeodesicCutter cutter = new GeodesicCutter();
            call.dueOf(cutter);
            Calls.due(1, cutter, "count", 16);
            Calls.due(0, cutter, "undo");
        }
        for (Call call : CHANGES) {
            GeodesicCutter cutter = new GeodesicCutter();
            buildDome(cutter);
            call.dueOf(cutter);
            Calls.due(6, cutter, "count", 16);
        }
        GeodesicCutter cutter = new GeodesicCutter();
        Calls.due(1, cutter, "type", '0');
        Calls.due(1, cutter, "clearText");
        Calls.due(0, cutter, "worst");
        Calls.due(2000, cutter, "radiusFor", 1000);
        Calls.due(8, cutter, "stock", 0);
        Calls.due(0, cutter, "count", 16);
    }

    private static void recordsEverythingButTheText() {
        Sentences.terms("each change records everything before it but the text");
        for (Call call : CHANGES) {
            GeodesicCutter cutter = new GeodesicCutter();
            buildDome(cutter);
            String before = snapshot(cutter);
            call.dueOf(cutter);
            if (before.equals(snapshot(cutter))) {
                Check.fail(call.name() + " is seen nowhere");
            }
            Check.retype(cutter, "0-2");
            Calls.due(5, cutter, "undo");
            if (!before.equals(snapshot(cutter))) {
                Check.fail("undo of " + call.name() + " gives " + snapshot(cutter) + " for " + before);
            }
            Calls.due(3, cutter, "count", 17);
            Calls.due(1, cutter, "fault", 1);
        }
    }

    private static void history() {
        Sentences.terms("A history of at most 6 states is kept");
        GeodesicCutter cutter = new GeodesicCutter();
        for (int i = 1; i <= 9; i++) {
            Calls.due(i == 1 ? 1000 : 99 + i, cutter, "setRadius", 100 + i);
            Calls.due(Math.min(i, 6), cutter, "count", 16);
        }
        Sentences.terms("if there are 7 states then, the oldest one is dropped");
        for (int i = 8; i >= 3; i--) {
            Calls.due(i - 3, cutter, "undo");
            Calls.due(100 + i, cutter, "count", 5);
        }
        Calls.due(NOT_POSSIBLE, cutter, "undo");
        Calls.due(103, cutter, "count", 5);
        // With just 6 the oldest one stays.
        cutter = new GeodesicCutter();
        for (int i = 1; i <= 6; i++) {
            cutter.setRadius(100 + i);
        }
        for (int left = 5; left >= 0; left--) {
            Calls.due(left, cutter, "undo");
        }
        Calls.due(1000, cutter, "count", 5);
    }

    private static void ranks() {
        Sentences.terms("INVALID_ARGUMENT is returned rather than NOT_POSSIBLE");
        dueAfter(ChangeSentences::buildTooLong, new Call(NOT_POSSIBLE, "setStock", 100, 20),
                new Call(INVALID, "setStock", 100, 21), new Call(INVALID, "setStock", 99, 20),
                new Call(INVALID, "stock", 4), new Call(INVALID, "stock", -1),
                new Call(INVALID, "strutOf", 12, 8), new Call(INVALID, "strutOf", 0, 9));
        dueAfter(ChangeSentences::buildOctahedron, new Call(INVALID, "way", 5, 6), new Call(INVALID, "way", 6, 5),
                new Call(INVALID, "way", -1, 5), new Call(INVALID, "put", 12), new Call(INVALID, "lose", 12));
        Sentences.terms("NOT_POSSIBLE rather than LIMIT_REACHED");
        dueAfter(ChangeSentences::buildForty, new Call(NOT_POSSIBLE, "lose", 39), new Call(LIMIT, "lose", 40),
                new Call(INVALID, "lose", 48), new Call(LIMIT, "loseAll"), new Call(7, "type", 'x'),
                new Call(NOT_POSSIBLE, "loseAll"));
        dueAfter(ChangeSentences::buildLongText, new Call(LIMIT, "type", 32), new Call(INVALID, "type", 31),
                new Call(INVALID, "type", 127), new Call(NOT_POSSIBLE, "loseAll"));
        Sentences.terms("LIMIT_REACHED rather than NOT_FOUND");
        // No call has both, but NOT_FOUND stands behind the others, too.
        dueAfter(ChangeSentences::buildTooLong, new Call(NOT_POSSIBLE, "strutOf", 11, 8),
                new Call(NOT_FOUND, "radiusFor", 1), new Call(INVALID, "radiusFor", 0));
        dueAfter(ChangeSentences::buildLonelyHub, new Call(NOT_FOUND, "way", 0, 1),
                new Call(NOT_POSSIBLE, "way", 1, 5), new Call(NOT_POSSIBLE, "way", 5, 1),
                new Call(INVALID, "way", 1, 6), new Call(INVALID, "hubAt", 7, 1, 1),
                new Call(INVALID, "joined", 6, 9), new Call(INVALID, "strut", 6, 6), new Call(INVALID, "fault", 2));
    }

    private static void dueAfter(Consumer<GeodesicCutter> build, Call... calls) {
        GeodesicCutter cutter = new GeodesicCutter();
        build.accept(cutter);
        for (Call call : calls) {
            call.dueOf(cutter);
        }
    }

    /** Compares an object that answers an error with a twin that was not asked. */
    private static void dueWithoutChange(Consumer<GeodesicCutter> build, Call... calls) {
        for (Call call : calls) {
            GeodesicCutter asked = new GeodesicCutter();
            build.accept(asked);
            call.dueOf(asked);
            GeodesicCutter twin = new GeodesicCutter();
            build.accept(twin);
            if (!everything(asked).equals(everything(twin))) {
                Check.fail(call.name() + Arrays.toString(call.arguments()) + " has changed something");
            }
        }
    }

    private static void errorsChangeNothing() {
        Sentences.terms("A call that returns an error changes nothing");
        dueWithoutChange(cutter -> { }, new Call(NOT_POSSIBLE, "undo"), new Call(NOT_POSSIBLE, "put", 0),
                new Call(NOT_FOUND, "fault", 0));
        dueWithoutChange(ChangeSentences::buildOctahedron,
                new Call(INVALID, "split", 0), new Call(INVALID, "split", 7), new Call(INVALID, "setRadius", 9),
                new Call(INVALID, "setRadius", 2001), new Call(INVALID, "cutAt", -2),
                new Call(INVALID, "cutAt", 2), new Call(INVALID, "setStock", 99, 3),
                new Call(INVALID, "setStock", 20001, 3), new Call(INVALID, "setStock", 6000, -1),
                new Call(INVALID, "setStock", 6000, 21), new Call(NOT_POSSIBLE, "setStock", 1271, 0),
                new Call(INVALID, "count", 19), new Call(INVALID, "hub", 6, 0), new Call(INVALID, "hub", 0, 9),
                new Call(INVALID, "hubAt", 7, 0, 0), new Call(NOT_FOUND, "hubAt", 0, 0, 2),
                new Call(INVALID, "joined", 0, -1), new Call(NOT_FOUND, "joined", 0, 4),
                new Call(INVALID, "led", 0, 6), new Call(INVALID, "way", 0, 6), new Call(NOT_POSSIBLE, "way", 0, 5),
                new Call(INVALID, "strut", 0, 6), new Call(NOT_FOUND, "strut", 0, 5),
                new Call(INVALID, "strutOf", 0, 9), new Call(NOT_FOUND, "strutOf", 11, 8),
                new Call(INVALID, "kind", 1, 0), new Call(INVALID, "face", 8, 0), new Call(INVALID, "lose", 12),
                new Call(NOT_POSSIBLE, "lose", 0), new Call(INVALID, "put", 12), new Call(NOT_POSSIBLE, "put", 1),
                new Call(INVALID, "stock", 4), new Call(INVALID, "radiusFor", 0), new Call(INVALID, "type", 31),
                new Call(INVALID, "type", 127), new Call(INVALID, "fault", 2), new Call(NOT_POSSIBLE, "loseAll"));
        dueWithoutChange(ChangeSentences::buildTooLong, new Call(NOT_POSSIBLE, "stock", 0),
                new Call(NOT_POSSIBLE, "strutOf", 0, 8), new Call(NOT_POSSIBLE, "setStock", 100, 0),
                new Call(NOT_FOUND, "radiusFor", 1));
        dueWithoutChange(ChangeSentences::buildLonelyHub, new Call(NOT_FOUND, "way", 0, 1));
        dueWithoutChange(cutter -> cutter.cutAt(2), new Call(NOT_FOUND, "worst"));
        dueWithoutChange(ChangeSentences::buildForty, new Call(LIMIT, "lose", 40), new Call(LIMIT, "loseAll"));
        dueWithoutChange(ChangeSentences::buildLongText, new Call(LIMIT, "type", 48));
    }

    private static void noSuchNumber() {
        Sentences.terms("If there is no hub, strut, face or kind with a certain number, this is INVALID_ARGUMENT");
        for (int f = 1; f <= Balls.MOST_STEPS; f++) {
            GeodesicCutter cutter = Balls.of(f);
            int kinds = cutter.count(4);
            Calls.dueInvalidPairs(cutter, "hub", Balls.hubs(f), 9);
            Calls.dueInvalidPairs(cutter, "led", Balls.hubs(f), 6);
            Calls.dueInvalidPairs(cutter, "way", Balls.hubs(f), Balls.hubs(f));
            Calls.dueInvalidPairs(cutter, "strut", Balls.hubs(f), Balls.hubs(f));
            Calls.dueInvalidPairs(cutter, "strutOf", Balls.struts(f), 9);
            Calls.dueInvalidPairs(cutter, "kind", kinds, 5);
            Calls.dueInvalidPairs(cutter, "face", Balls.faces(f), 7);
            Calls.dueInvalid(cutter, "lose", -1, Balls.struts(f));
            Calls.dueInvalid(cutter, "put", -1, Balls.struts(f));
            Calls.due(INVALID, cutter, "joined", -1, 0);
            Calls.due(INVALID, cutter, "joined", Balls.hubs(f), 0);
            // The last ones of each are there.
            Calls.due(4, cutter, "hub", Balls.hubs(f) - 1, 3);
            Calls.due(Balls.hubs(f) - 1, cutter, "strutOf", Balls.struts(f) - 1, 1);
            Calls.due(kinds - 1, cutter, "strutOf", cutter.kind(kinds - 1, 4), 2);
            Calls.due(Balls.hubs(f) - 1, cutter, "face", Balls.faces(f) - 1, 2);
            Calls.due(2, cutter, "lose", Balls.struts(f) - 1);
        }
    }

    static void all() {
        changes();
        recordsEverythingButTheText();
        history();
        ranks();
        errorsChangeNothing();
        noSuchNumber();
    }
}
