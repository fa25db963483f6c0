/** Compares answers with those that are due, and ends a test. */
final class Check {
    private static int checks = 0;
    private static int failures = 0;
    private static String sentence = "";

    private Check() {
    }

    /** Names the document's words that the checks from here on are about. */
    static void sentence(String where, String words) {
        sentence = where + ", \"" + words + "\": ";
    }

    static void same(String what, long got, long due) {
        checks++;
        if (got != due) {
            failures++;
            System.out.println(sentence + what + " answered " + got + ", due is " + due);
        }
    }

    static void same(String what, boolean got, boolean due) {
        same(what, got ? 1 : 0, due ? 1 : 0);
    }

    static void isTrue(String what, boolean holds) {
        checks++;
        if (!holds) {
            failures++;
            System.out.println(sentence + "does not hold: " + what);
        }
    }

    static boolean failed() {
        return failures != 0;
    }

    static void end() {
        System.out.println(checks + " checks, " + failures + " failed");
        if (failures != 0) {
            System.exit(1);
        }
    }
}
