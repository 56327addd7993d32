/** Runs tests, each under the sentence of the document that it holds the class to, and ends with 1 if one failed. */
final class Due {
    private static String part = "";
    private static int asked = 0;
    private static int wrong = 0;
    private static boolean allHold = true;
    private static boolean anyRan = false;

    private Due() {
    }

    /** The part of the document that the tests which follow are about. */
    static void about(String name) {
        part = name;
    }

    /** A test that asks nothing fails. */
    static void test(String sentence, Runnable body) {
        asked = 0;
        wrong = 0;
        body.run();
        boolean holds = asked > 0 && wrong == 0;
        allHold &= holds;
        anyRan = true;
        System.out.println((holds ? "ok      " : "FAILED  ") + part + ": " + sentence);
    }

    static void is(String call, long got, long want) {
        asked++;
        if (got != want) {
            wrong++;
            System.out.println("        " + call + " answered " + got + ", due is " + want);
        }
    }

    static void is(String call, String got, String want) {
        asked++;
        if (!got.equals(want)) {
            wrong++;
            System.out.println("        " + call + " answered \"" + got + "\", due is \"" + want + "\"");
        }
    }

    static void holds(String what, boolean so) {
        is(what, so ? 1 : 0, 1);
    }

    static void end() {
        if (!anyRan || !allHold) {
            System.exit(1);
        }
    }
}
