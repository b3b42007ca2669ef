/** Promises 23 to 26: type, clearText, fault, loseAll. */
public final class TextsTest {
    private static final int INVALID = -1001;
    private static final int NOT_POSSIBLE = -1002;
    private static final int LIMIT = -1003;
    private static final int NOT_FOUND = -1004;

    private static void typeAndClear() {
        GeodesicCutter cutter = new GeodesicCutter();
        Check.due("clearText() of nothing", cutter.clearText(), 0);
        Check.due("type(32)", cutter.type(32), 1);
        Check.due("type(126)", cutter.type(126), 2);
        for (int far : new int[] {31, 127, 0, -1, 65536 + 48, Integer.MIN_VALUE, Integer.MAX_VALUE}) {
            Check.due("type(" + far + ")", cutter.type(far), INVALID);
        }
        for (int i = 3; i <= 80; i++) {
            Check.due("type(48)", cutter.type(48), i);
        }
        Check.due("type(48) beyond 80", cutter.type(48), LIMIT);
        Check.due("type(31) beyond 80", cutter.type(31), INVALID);
        Check.due("length", cutter.count(17), 80);
        Check.due("clearText()", cutter.clearText(), 80);
        Check.due("length", cutter.count(17), 0);
        Check.due("type(48) again", cutter.type(48), 1);
    }

    private static void dueFault(GeodesicCutter cutter, String text, int place, int reason) {
        Check.retype(cutter, text);
        Check.due("fault(0) of " + text, cutter.fault(0), place);
        Check.due("fault(1) of " + text, cutter.fault(1), reason);
    }

    private static void faults() {
        GeodesicCutter cutter = new GeodesicCutter();
        dueFault(cutter, "", NOT_FOUND, NOT_FOUND);
        for (String right : new String[] {"0-1;", "000-001;", "0-1;0-2;", "16-17;", "016-17;00-4;"}) {
            dueFault(cutter, right, NOT_FOUND, NOT_FOUND);
        }
        String[] formless = {";", "0", "0-", "0-1", "-1;", "0-;", "0--1;", "0+1;", "0-1,", " 0-1;", "0 -1;",
            "0-1 ;", "0000-1;", "0-0001;", "0-1:", "a-1;", "0-/;", "0-:;", "9999-1;", "0-1-2;", "0_1;", "0.1;"};
        for (String text : formless) {
            GeodesicCutter fresh = new GeodesicCutter();
            dueFault(fresh, text, 0, 1);
            dueFault(fresh, "0-1;" + text, 4, 1);
        }
        dueFault(cutter, "0-1; ", 4, 1);
        dueFault(cutter, "0-18;", 0, 2);
        dueFault(cutter, "18-0;", 0, 2);
        dueFault(cutter, "999-999;", 0, 2);
        dueFault(cutter, "0-0;", 0, 3);
        dueFault(cutter, "1-0;", 0, 3);
        dueFault(cutter, "0-17;", 0, 3);
        dueFault(cutter, "17-0;", 0, 3);
        dueFault(cutter, "0-1;0-1;", 4, 5);
        dueFault(cutter, "0-1;0-2;000-01;x", 8, 5);
        dueFault(cutter, "0-1;1-0;", 4, 3);
        dueFault(cutter, "0-1;x;0-99;", 4, 1);
        Check.due("fault(2)", cutter.fault(2), INVALID);
        Check.due("fault(-1)", cutter.fault(-1), INVALID);
        Check.due("fault(least)", cutter.fault(Integer.MIN_VALUE), INVALID);
        cutter.clearText();
        Check.due("fault(2) of no text", cutter.fault(2), INVALID);
    }

    private static void faultsOfMissingStruts() {
        GeodesicCutter cutter = new GeodesicCutter();
        cutter.lose(0);
        dueFault(cutter, "0-2;0-1;", 4, 4);
        dueFault(cutter, "0-1;0-1;", 0, 4);
        dueFault(cutter, "1-0;", 0, 3);
        cutter.put(0);
        Check.retype(cutter, "0-1;");
        Check.due("fault(0), put back", cutter.fault(0), NOT_FOUND);
        cutter.cutAt(2);
        Check.due("fault(0), not kept", cutter.fault(0), NOT_FOUND);
        dueFault(cutter, "16-17;", NOT_FOUND, NOT_FOUND);
        cutter.split(1);
        Check.due("fault(1) of fewer hubs", cutter.fault(1), 2);
        cutter.split(6);
        dueFault(cutter, "144-145;", NOT_FOUND, NOT_FOUND);
        dueFault(cutter, "144-146;", 0, 2);
    }

    private static void fullTexts() {
        GeodesicCutter cutter = new GeodesicCutter();
        // All nineteen struts between hubs of one digit.
        String nineteen = "0-1;0-2;0-3;0-4;1-2;1-3;1-5;1-6;1-7;2-4;2-6;2-8;3-4;3-7;3-9;5-6;5-7;6-8;7-9;";
        dueFault(cutter, nineteen + "0-1;", 76, 5);
        dueFault(cutter, nineteen + "7-9;", 76, 5);
        dueFault(cutter, nineteen + "9-9;", 76, 3);
        dueFault(cutter, nineteen + "9-9", 76, 1);
        String full = nineteen.substring(16) + "4-10;4-11;4-12;2-10;";
        dueFault(cutter, full, NOT_FOUND, NOT_FOUND);
        Check.due("length", cutter.count(17), 80);
        Check.due("loseAll() of a full text", cutter.loseAll(), 19);
        Check.due("missing", cutter.count(18), 19);
        Check.due("clearText()", cutter.clearText(), 80);
    }

    private static void loseAll() {
        GeodesicCutter cutter = new GeodesicCutter();
        Check.due("loseAll() of no text", cutter.loseAll(), 0);
        Check.retype(cutter, "0-1;16-17;");
        Check.due("loseAll()", cutter.loseAll(), 2);
        Check.due("one change", cutter.count(16), 2);
        Check.due("the text stays", cutter.count(17), 10);
        Check.due("strutOf(0, 5)", cutter.strutOf(0, 5), 1);
        Check.due("strutOf(47, 5)", cutter.strutOf(47, 5), 1);
        Check.due("missing", cutter.count(18), 2);
        Check.due("loseAll() again", cutter.loseAll(), NOT_POSSIBLE);
        Check.due("fault(1)", cutter.fault(1), 4);
        Check.due("undo()", cutter.undo(), 1);
        Check.due("none missing", cutter.count(18), 0);
        Check.due("loseAll() after undo", cutter.loseAll(), 2);
        Check.retype(cutter, "0-2;0-2;");
        Check.due("loseAll() with a fault", cutter.loseAll(), NOT_POSSIBLE);
        Check.due("it loses nothing", cutter.count(18), 2);
        Check.due("it is no change", cutter.count(16), 2);
    }

    private static void loseAllUpToForty() {
        GeodesicCutter cutter = new GeodesicCutter();
        for (int strut = 47; strut >= 10; strut--) {
            cutter.lose(strut);
        }
        Check.retype(cutter, "0-1;0-2;0-3;");
        Check.due("loseAll() to 41", cutter.loseAll(), LIMIT);
        Check.due("missing", cutter.count(18), 38);
        Check.typeAll(cutter, "x");
        Check.due("a fault comes first", cutter.loseAll(), NOT_POSSIBLE);
        Check.retype(cutter, "0-1;0-2;");
        Check.due("loseAll() to 40", cutter.loseAll(), 2);
        Check.due("missing", cutter.count(18), 40);
        Check.due("a missing one is a fault first", cutter.loseAll(), NOT_POSSIBLE);
        Check.retype(cutter, "0-3;");
        Check.due("loseAll() beyond 40", cutter.loseAll(), LIMIT);
        cutter.clearText();
        Check.due("loseAll() of nothing at 40", cutter.loseAll(), 0);
    }

    public static void main(String[] args) {
        typeAndClear();
        faults();
        faultsOfMissingStruts();
        fullTexts();
        loseAll();
        loseAllUpToForty();
        Check.end();
    }
}
