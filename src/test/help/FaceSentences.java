import java.io.IOException;
import java.nio.file.Files;
import java.nio.file.Path;
import java.util.ArrayList;
import java.util.LinkedHashMap;
import java.util.List;
import java.util.Map;

/** 'What it is', 'The public face', and the sentences of the Terms that are about all calls. */
final class FaceSentences {
    private static final Path SOURCE = Path.of("src/main/java/GeodesicCutter.java");
    private static final String SECTION = "    // ---- ";
    private static final String CALL = "    public int ";
    private static final int MOST_CALLS = 512;

    /** The answers to the same call, asked again and again of a ball of 6 steps. */
    private record Row(int first, int last, String name, int... arguments) {
    }

    private static final Row[] ROWS = {
        new Row(146, 146, "split", 6), new Row(1000, 500, "setRadius", 500), new Row(85, 85, "cutAt", 0),
        new Row(23, 23, "setStock", 6000, 3), new Row(2, 2, "count", 13), new Row(0, Check.NOT_POSSIBLE, "undo"),
        new Row(6, 6, "hub", 145, 8), new Row(145, 145, "hubAt", 0, 0, -6), new Row(144, 144, "joined", 145, 3),
        new Row(145, 145, "led", 0, 5), new Row(12, 12, "way", 0, 145),
        new Row(Check.NOT_FOUND, Check.NOT_FOUND, "strut", 0, 145), new Row(22, 22, "strutOf", 431, 8),
        new Row(48, 48, "kind", 8, 3), new Row(671, 671, "face", 287, 6),
        new Row(2, Check.NOT_POSSIBLE, "lose", 0), new Row(Check.NOT_POSSIBLE, Check.NOT_POSSIBLE, "put", 0),
        new Row(0, 0, "mend"), new Row(0, 0, "worst"), new Row(1805, 1805, "stock", 1),
        new Row(36, 36, "radiusFor", 1), new Row(1, Check.LIMIT, "type", '7'), new Row(0, 0, "clearText"),
        new Row(Check.NOT_FOUND, Check.NOT_FOUND, "fault", 0), new Row(0, 0, "loseAll")
    };

    private FaceSentences() {
    }

    private static void whatItIs() {
        Sentences.whatItIs("A cutter for geodesic domes: the faces of an octahedron are split by whole steps");
        GeodesicCutter cutter = Balls.of(1);
        Calls.due(8, cutter, "count", 3);
        cutter.split(3);
        Calls.due(72, cutter, "count", 3);
        Sentences.whatItIs("hubs are numbered, struts are told with exact kinds by their lengths on the ball "
                + "and whole millimetres");
        Calls.due(37, cutter, "hubAt", 0, 0, -3);
        Calls.due(3, cutter, "count", 4);
        Calls.due(459, cutter, "strutOf", 0, 3);
        Sentences.whatItIs("a cut line leaves a dome, bars of stock are sawn into struts");
        Calls.due(25, cutter, "cutAt", 0);
        Calls.due(7, cutter, "setStock", 6000, 3);
        Sentences.whatItIs("struts that are missing make holes and longer ways");
        Calls.due(1, cutter, "way", 0, 1);
        Calls.due(2, cutter, "lose", 0);
        Calls.due(2, cutter, "count", 12);
        Calls.due(2, cutter, "way", 0, 1);
        Sentences.whatItIs("mirrors and turns lead hubs to hubs");
        Calls.due(37, cutter, "led", 0, 2);
        Sentences.whatItIs("lists of missing struts come as texts with places and reasons of faults");
        Check.typeAll(cutter, "0-2;0-1;");
        Calls.due(4, cutter, "fault", 0);
        Calls.due(4, cutter, "fault", 1);
    }

    private static void callsOfOneObject() {
        Sentences.whatItIs("An object is used for at most 512 calls after it has been made");
        for (Row row : ROWS) {
            GeodesicCutter cutter = Balls.of(6);
            Calls.due(row.first, cutter, row.name, row.arguments);
            for (int call = 3; call < MOST_CALLS; call++) {
                Calls.ask(cutter, row.name, row.arguments);
            }
            Calls.due(row.last, cutter, row.name, row.arguments);
        }
    }

    private static void laterCalls() {
        Sentences.whatItIs("what later calls answer is free");
        GeodesicCutter cutter = Balls.of(6);
        // Whatever they answer, they may not throw.
        for (int round = 0; round < MOST_CALLS; round++) {
            for (Row row : ROWS) {
                Calls.ask(cutter, row.name, row.arguments);
            }
        }
    }

    private static void publicFace(List<String> source) throws IOException {
        Check.about("The public face: ");
        List<String> open = new ArrayList<>();
        for (String line : source) {
            if (line.startsWith("public ") || line.startsWith("    public ")) {
                open.add(line.startsWith("    ") ? line.replace(" {", ";") : line);
            }
        }
        List<String> due = Sentences.face();
        if (!due.isEmpty() && !open.equals(due)) {
            Check.fail("the class has " + open + ", the document " + due);
        }
    }

    /** The quotes are made from the source, and have to be the sentences of the document. */
    private static void sectionsOfCalls(List<String> source) {
        Map<String, List<String>> calls = new LinkedHashMap<>();
        List<String> section = new ArrayList<>();
        for (String line : source) {
            if (line.startsWith(SECTION)) {
                section = new ArrayList<>();
                calls.put(line.substring(SECTION.length()), section);
            } else if (line.startsWith(CALL) && line.indexOf('(') > 0) {
                section.add("`" + line.substring(CALL.length(), line.indexOf('(')) + "`");
            }
        }
        for (Map.Entry<String, List<String>> entry : calls.entrySet()) {
            if (!entry.getValue().isEmpty()) {
                Sentences.terms("Ahead of the calls " + String.join(", ", entry.getValue())
                        + " the interface says: ---- " + entry.getKey() + ".");
            }
        }
    }

    private static void wholeNumbers() {
        Sentences.terms("All numbers are whole numbers");
        Sentences.terms("divisions are rounded down");
        GeodesicCutter cutter = Balls.of(1);
        // The root of 2 is 1.41421356 and more, and that of 2 * 1999 * 1999 is 2827.01 and more.
        Calls.due(1414, cutter, "kind", 0, 0);
        cutter.setRadius(1999);
        Calls.due(2827, cutter, "kind", 0, 0);
        cutter.setRadius(17);
        Calls.due(24, cutter, "kind", 0, 0);
    }

    private static void constants() {
        GeodesicCutter cutter = new GeodesicCutter();
        Sentences.terms("`INVALID_ARGUMENT = -1001`: An argument is out of its range, "
                + "or there is no such hub, strut, face or kind");
        Check.due("INVALID_ARGUMENT", GeodesicCutter.INVALID_ARGUMENT, -1001);
        Calls.due(-1001, cutter, "setRadius", 9);
        Calls.due(-1001, cutter, "hub", 18, 0);
        Calls.due(-1001, cutter, "strutOf", 48, 0);
        Calls.due(-1001, cutter, "face", 32, 0);
        Calls.due(-1001, cutter, "kind", 2, 0);
        Sentences.terms("`NOT_POSSIBLE = -1002`: The call is not possible in the present state");
        Check.due("NOT_POSSIBLE", GeodesicCutter.NOT_POSSIBLE, -1002);
        Calls.due(-1002, cutter, "put", 0);
        Sentences.terms("`LIMIT_REACHED = -1003`: A fixed limit has been reached");
        Check.due("LIMIT_REACHED", GeodesicCutter.LIMIT_REACHED, -1003);
        Balls.loseFirst(cutter, 40);
        Calls.due(-1003, cutter, "lose", 40);
        Sentences.terms("`NOT_FOUND = -1004`: There is no such value");
        Check.due("NOT_FOUND", GeodesicCutter.NOT_FOUND, -1004);
        Calls.due(-1004, cutter, "strut", 0, 17);
    }

    static void all() throws IOException {
        List<String> source = Files.readAllLines(SOURCE);
        whatItIs();
        callsOfOneObject();
        laterCalls();
        publicFace(source);
        sectionsOfCalls(source);
        wholeNumbers();
        constants();
    }
}
