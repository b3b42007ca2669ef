/** Promises 13 to 20: strut, strutOf, kind, face, lose, put, mend, worst. */
public final class StrutsTest {
    private static final int INVALID = -1001;
    private static final int NOT_POSSIBLE = -1002;
    private static final int LIMIT = -1003;
    private static final int NOT_FOUND = -1004;
    private static final int[] FAR = {-1, Integer.MIN_VALUE, Integer.MAX_VALUE};

    private static void strut() {
        GeodesicCutter cutter = new GeodesicCutter();
        Check.due("strut(0, 1)", cutter.strut(0, 1), 0);
        Check.due("strut(4, 0)", cutter.strut(4, 0), 3);
        // Hub 1, (0, -1, 1), is joined to 0, 2, 3, 5, 6, 7.
        int[] higher = {2, 3, 5, 6, 7};
        for (int i = 0; i < higher.length; i++) {
            Check.due("strut(1, " + higher[i] + ")", cutter.strut(1, higher[i]), 4 + i);
            Check.due("strut(" + higher[i] + ", 1)", cutter.strut(higher[i], 1), 4 + i);
        }
        Check.due("strut(16, 17)", cutter.strut(16, 17), 47);
        Check.due("strut(0, 17)", cutter.strut(0, 17), NOT_FOUND);
        Check.due("strut(1, 4)", cutter.strut(1, 4), NOT_FOUND);
        Check.due("strut(3, 3)", cutter.strut(3, 3), NOT_FOUND);
        for (int far : new int[] {18, FAR[0], FAR[1], FAR[2]}) {
            Check.due("strut(" + far + ", 0)", cutter.strut(far, 0), INVALID);
            Check.due("strut(0, " + far + ")", cutter.strut(0, far), INVALID);
        }
    }

    private static void dueStrut(GeodesicCutter cutter, int strut, int... want) {
        for (int what = 0; what < want.length; what++) {
            Check.due("strutOf(" + strut + ", " + what + ")", cutter.strutOf(strut, what), want[what]);
        }
    }

    private static void strutOf() {
        GeodesicCutter cutter = new GeodesicCutter();
        // 24 struts of 1000 in 4 bars of 5 (5015 each), then 24 of 765; a bar's last 985 takes one.
        dueStrut(cutter, 4, 1, 2, 1, 1000, 1, 0, 1, 4, 0);
        dueStrut(cutter, 0, 0, 1, 0, 765, 1, 0, 2, 8, 0);
        dueStrut(cutter, 47, 16, 17, 0, 765, 1, 0, 2, 8, 7);
        cutter.lose(47);
        cutter.cutAt(0);
        dueStrut(cutter, 47, 16, 17, 0, 765, 0, 1, 2, 8, NOT_FOUND);
        Check.due("a missing strut is sawn", cutter.strutOf(0, 8), 0);
        for (int far : new int[] {48, FAR[0], FAR[1], FAR[2]}) {
            Check.due("strutOf(" + far + ", 0)", cutter.strutOf(far, 0), INVALID);
        }
        for (int far : new int[] {9, FAR[0], FAR[1], FAR[2]}) {
            Check.due("strutOf(0, " + far + ")", cutter.strutOf(0, far), INVALID);
        }
        cutter.setStock(1000, 0);
        cutter.setRadius(1002);
        Check.due("a strut is too long", cutter.strutOf(0, 8), NOT_POSSIBLE);
        Check.due("too long comes before not kept", cutter.strutOf(47, 8), NOT_POSSIBLE);
        Check.due("but not before a wrong strut", cutter.strutOf(48, 8), INVALID);
        cutter.cutAt(2);
        Check.due("nothing kept is too long", cutter.strutOf(4, 8), NOT_FOUND);
    }

    private static void lengths() {
        GeodesicCutter cutter = new GeodesicCutter();
        // 2 steps: root of 2 - root of 2 = 0.76536.., and just 1 times the radius; 1 step: root of 2.
        int[][] due = {{10, 7, 10, 14}, {11, 8, 11, 15}, {999, 764, 999, 1412}, {1000, 765, 1000, 1414},
            {1999, 1529, 1999, 2827}, {2000, 1530, 2000, 2828}};
        for (int[] row : due) {
            cutter.split(2);
            cutter.setRadius(row[0]);
            Check.due("length of kind 0 for " + row[0], cutter.kind(0, 0), row[1]);
            Check.due("length of kind 1 for " + row[0], cutter.kind(1, 0), row[2]);
            cutter.split(1);
            Check.due("length of one step for " + row[0], cutter.kind(0, 0), row[3]);
            Check.due("strutOf(11, 3) for " + row[0], cutter.strutOf(11, 3), row[3]);
        }
    }

    private static void kind() {
        GeodesicCutter cutter = new GeodesicCutter();
        cutter.split(5);
        int[] lengths = {244, 314, 341, 342, 388, 392, 400, 436, 471};
        int[] struts = {24, 48, 24, 24, 48, 12, 48, 48, 24};
        int[] lowest = {0, 7, 6, 4, 23, 22, 20, 26, 53};
        for (int kind = 0; kind < 9; kind++) {
            Check.due("kind(" + kind + ", 0)", cutter.kind(kind, 0), lengths[kind]);
            Check.due("kind(" + kind + ", 1)", cutter.kind(kind, 1), struts[kind]);
            Check.due("kind(" + kind + ", 2)", cutter.kind(kind, 2), struts[kind]);
            Check.due("kind(" + kind + ", 3)", cutter.kind(kind, 3), struts[kind]);
            Check.due("kind(" + kind + ", 4)", cutter.kind(kind, 4), lowest[kind]);
        }
        Check.due("kind(9, 0)", cutter.kind(9, 0), INVALID);
        cutter.split(2);
        cutter.cutAt(1);
        cutter.lose(0);
        cutter.lose(4);
        cutter.lose(47);
        int[][] due = {{765, 24, 4, 3, 0}, {1000, 24, 4, 3, 4}};
        for (int kind = 0; kind < 2; kind++) {
            for (int what = 0; what < 5; what++) {
                Check.due("kind(" + kind + ", " + what + ") cut", cutter.kind(kind, what), due[kind][what]);
            }
        }
        for (int far : new int[] {2, FAR[0], FAR[1], FAR[2]}) {
            Check.due("kind(" + far + ", 0)", cutter.kind(far, 0), INVALID);
        }
        for (int far : new int[] {5, FAR[0], FAR[1], FAR[2]}) {
            Check.due("kind(0, " + far + ")", cutter.kind(0, far), INVALID);
        }
    }

    /** At the smallest radius kinds share lengths, but stay apart. */
    private static void kindsOfOneLength() {
        GeodesicCutter cutter = new GeodesicCutter();
        cutter.split(6);
        cutter.setRadius(10);
        int[] lengths = {1, 2, 2, 2, 2, 3, 3, 3, 3};
        Check.due("kinds", cutter.count(4), 9);
        for (int kind = 0; kind < 9; kind++) {
            Check.due("kind(" + kind + ", 0)", cutter.kind(kind, 0), lengths[kind]);
        }
    }

    private static void dueFace(GeodesicCutter cutter, int face, int... want) {
        for (int what = 0; what < want.length; what++) {
            Check.due("face(" + face + ", " + what + ")", cutter.face(face, what), want[what]);
        }
    }

    private static void face() {
        GeodesicCutter cutter = new GeodesicCutter();
        dueFace(cutter, 0, 0, 1, 2, 1, 1, 2, 2530);
        dueFace(cutter, 1, 0, 1, 3, 1, 1, 2, 2530);
        dueFace(cutter, 2, 0, 2, 4, 1, 1, 2, 2530);
        dueFace(cutter, 3, 0, 3, 4, 1, 1, 2, 2530);
        // Hub 1 with 2, 3, 5, 6, 7 above it: 2-6, 3-7, 5-6, 5-7 are joined.
        dueFace(cutter, 4, 1, 2, 6, 1, 1, 1, 3000);
        dueFace(cutter, 5, 1, 3, 7, 1, 1, 1, 3000);
        dueFace(cutter, 6, 1, 5, 6, 1, 1, 2, 2530);
        dueFace(cutter, 7, 1, 5, 7, 1, 1, 2, 2530);
        dueFace(cutter, 31, 15, 16, 17, 1, 1, 2, 2530);
        cutter.lose(0);
        dueFace(cutter, 0, 0, 1, 2, 1, 0, 2, 2530);
        dueFace(cutter, 2, 0, 2, 4, 1, 1, 2, 2530);
        cutter.cutAt(1);
        dueFace(cutter, 0, 0, 1, 2, 1, 0, 2, 2530);
        dueFace(cutter, 3, 0, 3, 4, 1, 1, 2, 2530);
        dueFace(cutter, 4, 1, 2, 6, 0, 0, 1, 3000);
        for (int far : new int[] {32, FAR[0], FAR[1], FAR[2]}) {
            Check.due("face(" + far + ", 0)", cutter.face(far, 0), INVALID);
        }
        for (int far : new int[] {7, FAR[0], FAR[1], FAR[2]}) {
            Check.due("face(0, " + far + ")", cutter.face(0, far), INVALID);
        }
        cutter.split(6);
        Check.due("face(287, 2) of 6 steps", cutter.face(287, 2), 145);
        Check.due("face(288, 2) of 6 steps", cutter.face(288, 2), INVALID);
    }

    private static void loseAndPut() {
        GeodesicCutter cutter = new GeodesicCutter();
        Check.due("lose(0)", cutter.lose(0), 2);
        Check.due("lose(0) again", cutter.lose(0), NOT_POSSIBLE);
        Check.due("lose(1), beside it", cutter.lose(1), 1);
        Check.due("lose(2), beside it", cutter.lose(2), 1);
        Check.due("lose(3), all holes", cutter.lose(3), 0);
        Check.due("holes", cutter.count(12), 4);
        Check.due("put(0)", cutter.put(0), 0);
        Check.due("put(1)", cutter.put(1), 1);
        Check.due("put(1) again", cutter.put(1), NOT_POSSIBLE);
        Check.due("put(2)", cutter.put(2), 1);
        Check.due("put(3)", cutter.put(3), 2);
        Check.due("holes", cutter.count(12), 0);
        cutter.cutAt(1);
        Check.due("lose(4), one face kept", cutter.lose(4), 1);
        Check.due("lose(47), not kept", cutter.lose(47), 0);
        Check.due("put(47), not kept", cutter.put(47), 0);
        Check.due("put(4), one face kept", cutter.put(4), 1);
        for (int far : new int[] {48, FAR[0], FAR[1], FAR[2]}) {
            Check.due("lose(" + far + ")", cutter.lose(far), INVALID);
            Check.due("put(" + far + ")", cutter.put(far), INVALID);
        }
        cutter.split(1);
        Check.due("lose(11) of one step", cutter.lose(11), 2);
        Check.due("lose(12) of one step", cutter.lose(12), INVALID);
    }

    private static void loseAndPutAreChanges() {
        GeodesicCutter cutter = new GeodesicCutter();
        cutter.lose(5);
        Check.due("lose is recorded", cutter.count(16), 1);
        cutter.put(5);
        Check.due("put is recorded", cutter.count(16), 2);
        Check.due("undo() of put", cutter.undo(), 1);
        Check.due("strutOf(5, 5) is missing again", cutter.strutOf(5, 5), 1);
        Check.due("missing", cutter.count(18), 1);
        Check.due("undo() of lose", cutter.undo(), 0);
        Check.due("strutOf(5, 5) is back again", cutter.strutOf(5, 5), 0);
        Check.due("missing", cutter.count(18), 0);
    }

    private static void atMostFortyAreMissing() {
        GeodesicCutter cutter = new GeodesicCutter();
        cutter.cutAt(2);
        for (int strut = 0; strut < 40; strut++) {
            Check.due("lose(" + strut + ")", cutter.lose(strut), 0);
        }
        Check.due("lose(40)", cutter.lose(40), LIMIT);
        Check.due("lose(39) is missing first", cutter.lose(39), NOT_POSSIBLE);
        Check.due("lose(48) is wrong first", cutter.lose(48), INVALID);
        Check.due("missing", cutter.count(18), 40);
        Check.due("of them kept", cutter.count(11), 0);
        Check.due("put(7)", cutter.put(7), 0);
        Check.due("lose(40) then", cutter.lose(40), 0);
        Check.due("mend()", cutter.mend(), 40);
        Check.due("mend() again", cutter.mend(), 0);
        Check.due("missing", cutter.count(18), 0);
        Check.due("strutOf(40, 5)", cutter.strutOf(40, 5), 0);
        Check.due("lose(40) after mend", cutter.lose(40), 0);
        cutter.undo();
        cutter.undo();
        Check.due("undo of mend brings none back here", cutter.count(18), 0);
        cutter.undo();
        Check.due("undo of the first mend", cutter.count(18), 40);
    }

    private static void worst() {
        GeodesicCutter cutter = new GeodesicCutter();
        Check.due("worst() of a ball", cutter.worst(), 0);
        cutter.lose(0);
        // Struts 1 and 2 lie at the two new holes, 3 (0 to 4) between closed faces.
        Check.due("worst() beside a hole", cutter.worst(), 3);
        cutter.lose(3);
        // Struts 4 and 5 are sides of holes; 6 (1 to 5) has two closed faces.
        Check.due("worst() beside four holes", cutter.worst(), 6);
        cutter.mend();
        cutter.cutAt(1);
        Check.due("worst() of four faces", cutter.worst(), 0);
        cutter.lose(0);
        cutter.lose(3);
        Check.due("worst() with holes alone", cutter.worst(), 1);
        cutter.lose(1);
        cutter.lose(2);
        Check.due("worst() with the rim alone", cutter.worst(), 4);
        for (int strut = 4; strut < 10; strut++) {
            if (cutter.strutOf(strut, 4) == 1) {
                cutter.lose(strut);
            }
        }
        cutter.lose(cutter.strut(2, 4));
        cutter.lose(cutter.strut(3, 4));
        Check.due("missing and kept", cutter.count(11), 8);
        Check.due("worst() of nothing", cutter.worst(), NOT_FOUND);
        cutter.mend();
        cutter.cutAt(2);
        Check.due("worst() of one hub", cutter.worst(), NOT_FOUND);
    }

    public static void main(String[] args) {
        strut();
        strutOf();
        lengths();
        kind();
        kindsOfOneLength();
        face();
        loseAndPut();
        loseAndPutAreChanges();
        atMostFortyAreMissing();
        worst();
        Check.end();
    }
}
