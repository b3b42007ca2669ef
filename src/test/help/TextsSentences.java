/** The sentences under 'Texts' of the Terms, and of promises 23 to 26, at their boundaries. */
final class TextsSentences {
    /** The nineteen struts of two steps between hubs of one digit. */
    private static final String NINETEEN
            = "0-1;0-2;0-3;0-4;1-2;1-3;1-5;1-6;1-7;2-4;2-6;2-8;3-4;3-7;3-9;5-6;5-7;6-8;7-9;";

    private TextsSentences() {
    }

    private static void dueFault(GeodesicCutter cutter, String text, int place, int reason) {
        Check.retype(cutter, text);
        Check.due("fault(0) of " + text, cutter.fault(0), place);
        Check.due("fault(1) of " + text, cutter.fault(1), reason);
    }

    private static void dueRight(GeodesicCutter cutter, String text) {
        dueFault(cutter, text, Check.NOT_FOUND, Check.NOT_FOUND);
    }

    private static void lengthOfText() {
        Sentences.terms("There is a text of at most 80 characters, initially empty");
        GeodesicCutter cutter = new GeodesicCutter();
        Calls.due(0, cutter, "count", 17);
        for (int length = 1; length <= 80; length++) {
            Calls.due(length, cutter, "type", ';');
        }
        Calls.due(Check.LIMIT, cutter, "type", ';');
        Calls.due(80, cutter, "count", 17);
    }

    private static void form() {
        Sentences.terms("a sequence of struts, each followed by \";\", as the numbers of its two hubs "
                + "with \"-\" between them (the lower one first");
        GeodesicCutter cutter = new GeodesicCutter();
        for (String right : new String[] {"", "0-1;", "0-1;0-2;", "16-17;0-1;", "9-15;", "4-10;"}) {
            dueRight(cutter, right);
        }
        for (String wrong : new String[] {"0-1", "0-1,", "0-1:", "0+1;", "0_1;", "0 1;", "01;", " 0-1;", "0 -1;",
            "0- 1;", "0-1 ;", "0-1-2;", ";", "-;", "0;", "(0-1);", "a-b;", "0-1.;"}) {
            dueFault(cutter, wrong, 0, 1);
        }
        dueFault(cutter, "0-1;;", 4, 1);
        dueFault(cutter, "0-1; 0-2;", 4, 1);
        Sentences.terms("1 to 3 digits each, zeros may stand ahead");
        for (String right : new String[] {"00-1;", "000-1;", "0-01;", "0-001;", "000-001;", "016-017;"}) {
            dueRight(cutter, right);
        }
        for (String wrong : new String[] {"-1;", "0-;", "-;", "0000-1;", "0-0001;", "0000-0001;", "0016-17;"}) {
            dueFault(cutter, wrong, 0, 1);
        }
        cutter.split(6);
        dueRight(cutter, "144-145;");
        dueFault(cutter, "0144-145;", 0, 1);
        dueFault(cutter, "144-0145;", 0, 1);
        // The characters beside the digits.
        for (String wrong : new String[] {"/-1;", ":-1;", "0-/;", "0-:;", "0/-1;", "0:-1;"}) {
            dueFault(cutter, wrong, 0, 1);
        }
    }

    private static void placeOfFault() {
        Sentences.terms("The fault of the text is the position, from 0, of the first character "
                + "of the first strut that is not possible");
        GeodesicCutter cutter = new GeodesicCutter();
        dueFault(cutter, "x", 0, 1);
        dueFault(cutter, "0-1;x", 4, 1);
        dueFault(cutter, "000-001;x", 8, 1);
        dueFault(cutter, "0-1;0-99;x", 4, 2);
        dueFault(cutter, "0-1;0-9;0-99;", 4, 3);
        dueFault(cutter, "0-1;0-2;0-3;0-4;0-5;", 16, 3);
        dueFault(cutter, NINETEEN + "4", 76, 1);
        // The last of eighty characters.
        dueFault(cutter, "0-1;00-2;00-3;00-4;01-2;01-3;01-5;01-6;01-7;02-4;02-6;02-8;03-4;03-7;03-9;05-6;0", 79, 1);
    }

    private static void reasons() {
        GeodesicCutter cutter = new GeodesicCutter();
        Sentences.terms("its reason is 1 if it is not of this form (also if its \";\" is missing)");
        for (String wrong : new String[] {"0", "0-", "0-1", "00-17", "0-1;0", "0-1;0-", "0-1;0-2"}) {
            dueFault(cutter, wrong, wrong.length() > 5 || wrong.startsWith("0-1;") ? 4 : 0, 1);
        }
        Sentences.terms("2 if there is no such hub");
        for (String wrong : new String[] {"0-18;", "17-18;", "18-17;", "18-0;", "18-18;", "999-0;", "0-999;"}) {
            dueFault(cutter, wrong, 0, 2);
        }
        Sentences.terms("3 if there is no strut between them or the lower one is not first");
        for (String wrong : new String[] {"0-17;", "0-5;", "0-0;", "17-17;", "1-0;", "17-16;", "17-0;"}) {
            dueFault(cutter, wrong, 0, 3);
        }
        Sentences.terms("4 if it is missing already");
        cutter.lose(47);
        dueFault(cutter, "16-17;", 0, 4);
        dueFault(cutter, "0-1;16-17;", 4, 4);
        cutter.put(47);
        dueRight(cutter, "16-17;");
        Sentences.terms("5 if it stands ahead in the text");
        dueFault(cutter, "0-1;0-1;", 4, 5);
        dueFault(cutter, "0-1;00-01;", 4, 5);
        dueFault(cutter, "0-1;0-2;0-3;0-1;", 12, 5);
        dueFault(cutter, "0-1;0-2;0-3;0-3;", 12, 5);
        // Cut lines do not matter: struts that are not kept can be missing.
        cutter.cutAt(2);
        dueRight(cutter, "0-1;16-17;");
    }

    private static void firstReason() {
        Sentences.terms("the first one of these that applies");
        GeodesicCutter cutter = new GeodesicCutter();
        cutter.lose(0);
        // Form ahead of hub, hub ahead of strut, strut ahead of missing, missing ahead of listed.
        dueFault(cutter, "99-0", 0, 1);
        dueFault(cutter, "0-0018;", 0, 1);
        dueFault(cutter, "1-0", 0, 1);
        dueFault(cutter, "0-1", 0, 1);
        dueFault(cutter, "0-2;0-2", 4, 1);
        dueFault(cutter, "18-0;", 0, 2);
        dueFault(cutter, "1-0;", 0, 3);
        dueFault(cutter, "0-2;2-0;", 4, 3);
        dueFault(cutter, "0-1;0-1;", 0, 4);
    }

    private static void type() {
        Sentences.promise(23, "Appends a character to the text");
        GeodesicCutter cutter = new GeodesicCutter();
        Check.typeAll(cutter, "0-1");
        Calls.due(1, cutter, "fault", 1);
        cutter.type(';');
        Calls.due(Check.NOT_FOUND, cutter, "fault", 1);
        Sentences.promise(23, "Returns the length of the text");
        Calls.due(5, cutter, "type", '0');
        Sentences.promise(23, "`character`: 32 to 126");
        Calls.due(6, cutter, "type", 32);
        Calls.due(7, cutter, "type", 126);
        Sentences.promise(23, "INVALID_ARGUMENT if character is out of range");
        Calls.dueInvalid(cutter, "type", 31, 127, 0, -1, 10, 255, 65536 + '0', -65536 + '0');
        Calls.due(7, cutter, "count", 17);
        Sentences.promise(23, "LIMIT_REACHED if it has 80 characters");
        for (int length = 8; length <= 79; length++) {
            cutter.type('x');
        }
        Calls.due(80, cutter, "type", 'x');
        Calls.due(Check.LIMIT, cutter, "type", 'x');
        Calls.due(Check.LIMIT, cutter, "type", 'x');
        Calls.dueInvalid(cutter, "type", 31, 127);
        Calls.due(80, cutter, "clearText");
        Calls.due(1, cutter, "type", 'x');
    }

    private static void clearText() {
        Sentences.promise(24, "Returns the length it had");
        GeodesicCutter cutter = new GeodesicCutter();
        Calls.due(0, cutter, "clearText");
        Check.typeAll(cutter, "x".repeat(80));
        Calls.due(80, cutter, "clearText");
        Sentences.promise(24, "Empties the text");
        Calls.due(0, cutter, "count", 17);
        Calls.due(Check.NOT_FOUND, cutter, "fault", 0);
        Calls.due(0, cutter, "clearText");
        // Nothing of an old text is read with a shorter one.
        Check.retype(cutter, "0-12;0-2;");
        Check.retype(cutter, "0-1");
        Calls.due(0, cutter, "fault", 0);
        Check.retype(cutter, "0-1;0-2;");
        Check.retype(cutter, "0-1;");
        Calls.due(1, cutter, "loseAll");
    }

    private static void fault() {
        Sentences.promise(25, "Tells about the fault of the text");
        GeodesicCutter cutter = new GeodesicCutter();
        Check.typeAll(cutter, "0-1;0-18;");
        Sentences.promise(25, "`what`: 0: its position");
        Calls.due(4, cutter, "fault", 0);
        Sentences.promise(25, "1: its reason");
        Calls.due(2, cutter, "fault", 1);
        Sentences.promise(25, "Returns that");
        Calls.due(4, cutter, "fault", 0);
        // A fault at the position 0 is a fault, too.
        dueFault(cutter, "18-0;", 0, 2);
        Sentences.promise(25, "INVALID_ARGUMENT if what is out of range");
        Calls.dueInvalid(cutter, "fault", -1, 2);
        Sentences.promise(25, "NOT_FOUND if the text has no fault (also if it is empty)");
        dueRight(cutter, "0-1;");
        Calls.dueInvalid(cutter, "fault", -1, 2);
        dueRight(cutter, "");
        Calls.dueInvalid(cutter, "fault", -1, 2);
        // The same text gets and loses its fault with the steps and the missing struts.
        dueRight(cutter, "16-17;");
        cutter.split(1);
        Calls.due(2, cutter, "fault", 1);
        cutter.split(3);
        Calls.due(3, cutter, "fault", 1);
        cutter.undo();
        cutter.undo();
        Calls.due(Check.NOT_FOUND, cutter, "fault", 1);
        cutter.lose(47);
        Calls.due(4, cutter, "fault", 1);
    }

    private static void faultsOfFullTexts() {
        Sentences.promise(25, "Tells about the fault of the text");
        GeodesicCutter cutter = new GeodesicCutter();
        dueFault(cutter, NINETEEN + "0-1;", 76, 5);
        dueFault(cutter, NINETEEN + "0-0;", 76, 3);
        dueFault(cutter, NINETEEN + "4-10", 76, 1);
        dueFault(cutter, NINETEEN + "16-1", 76, 1);
    }

    private static void loseAll() {
        Sentences.promise(26, "Loses all struts of the text, which stays");
        GeodesicCutter cutter = Balls.dome(2, 1);
        Check.typeAll(cutter, "0-1;16-17;");
        Sentences.promise(26, "Returns how many there are in it");
        Calls.due(2, cutter, "loseAll");
        Calls.due(10, cutter, "count", 17);
        Calls.due(1, cutter, "strutOf", 0, 5);
        Calls.due(1, cutter, "strutOf", 47, 5);
        Calls.due(2, cutter, "count", 18);
        Sentences.promise(26, "They are one change");
        Calls.due(3, cutter, "count", 16);
        Calls.due(2, cutter, "undo");
        Calls.due(0, cutter, "count", 18);
        Calls.due(10, cutter, "count", 17);
        Sentences.promise(26, "NOT_POSSIBLE if it has a fault");
        for (String wrong : new String[] {"x", "0-1", "0-1;0-18;", "0-1;1-0;", "0-1;0-1;", "0-1;0-2;0-2;"}) {
            Check.retype(cutter, wrong);
            Calls.due(Check.NOT_POSSIBLE, cutter, "loseAll");
            Calls.due(0, cutter, "count", 18);
        }
        Check.retype(cutter, "0-1;");
        Calls.due(1, cutter, "loseAll");
        // The struts of the text that stays are missing now.
        Calls.due(Check.NOT_POSSIBLE, cutter, "loseAll");
        Calls.due(1, cutter, "count", 18);
        Calls.due(3, cutter, "count", 16);
    }

    private static void loseAllOfNoText() {
        Sentences.promise(26, "Returns how many there are in it");
        GeodesicCutter cutter = new GeodesicCutter();
        Calls.due(0, cutter, "loseAll");
        // An empty text is lost as a change.
        Calls.due(1, cutter, "count", 16);
        Calls.due(0, cutter, "undo");
        Balls.loseFirst(cutter, 40);
        Calls.due(0, cutter, "loseAll");
        Calls.due(40, cutter, "count", 18);
        // As many as a text holds: nineteen with just 76 characters, and with all 80.
        cutter.mend();
        Check.typeAll(cutter, NINETEEN);
        Calls.due(19, cutter, "loseAll");
        cutter.mend();
        Check.retype(cutter, NINETEEN.substring(16) + "4-10;4-11;4-12;2-10;");
        Calls.due(80, cutter, "count", 17);
        Calls.due(19, cutter, "loseAll");
        Calls.due(19, cutter, "count", 18);
    }

    private static void loseAllToForty() {
        Sentences.promise(26, "LIMIT_REACHED if more than 40 struts would be missing");
        GeodesicCutter cutter = new GeodesicCutter();
        Balls.loseFirst(cutter, 38);
        Check.typeAll(cutter, "13-17;14-17;16-17;");
        Calls.due(Check.LIMIT, cutter, "loseAll");
        Calls.due(38, cutter, "count", 18);
        Calls.due(0, cutter, "strutOf", 47, 5);
        Check.retype(cutter, "14-17;16-17;");
        Calls.due(2, cutter, "loseAll");
        Calls.due(40, cutter, "count", 18);
        Check.retype(cutter, "13-17;");
        Calls.due(Check.LIMIT, cutter, "loseAll");
        Calls.due(40, cutter, "count", 18);
        // What is not kept counts, too.
        cutter.cutAt(2);
        Calls.due(Check.LIMIT, cutter, "loseAll");
        cutter.put(0);
        Calls.due(1, cutter, "loseAll");
    }

    static void all() {
        lengthOfText();
        form();
        placeOfFault();
        reasons();
        firstReason();
        type();
        clearText();
        fault();
        faultsOfFullTexts();
        loseAll();
        loseAllOfNoText();
        loseAllToForty();
    }
}
