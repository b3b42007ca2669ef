/** Counts the calls whose answers are not due, and ends a test. */
final class Check {
    static final int INVALID = -1001;
    static final int NOT_POSSIBLE = -1002;
    static final int LIMIT = -1003;
    static final int NOT_FOUND = -1004;

    private static final int MOST_TOLD = 20;
    private static int wrong = 0;
    private static String subject = "";

    private Check() {
    }

    /** What the next checks are about; it is told ahead of each wrong answer. */
    static void about(String newSubject) {
        subject = newSubject;
    }

    static void due(String call, long got, long want) {
        if (got != want) {
            fail(call + " answered " + got + ", due is " + want);
        }
    }

    static void fail(String what) {
        wrong++;
        if (wrong <= MOST_TOLD) {
            System.out.println(subject + what);
        }
    }

    static boolean isClean() {
        return wrong == 0;
    }

    static void typeAll(GeodesicCutter cutter, String text) {
        for (int i = 0; i < text.length(); i++) {
            if (cutter.type(text.charAt(i)) < 0) {
                fail("type refused character " + i + " of " + text);
            }
        }
    }

    /** Replaces the text. */
    static void retype(GeodesicCutter cutter, String text) {
        cutter.clearText();
        typeAll(cutter, text);
    }

    static void end() {
        System.out.println(wrong == 0 ? "all answers are as due" : wrong + " answers are not as due");
        if (wrong != 0) {
            System.exit(1);
        }
    }
}
