/** Counts what is not as due. */
final class Check {
    private static final int MOST_TOLD = 40;

    private static int asked = 0;
    private static int wrong = 0;
    private static String about = "";

    private Check() {
    }

    /** What all that is asked from now on belongs to. */
    static void about(String sentence) {
        about = sentence.isEmpty() ? "" : sentence + ": ";
    }

    static int asked() {
        return asked;
    }

    static void due(String what, long want, long got) {
        asked++;
        if (got != want) {
            wrong(what + " answered " + got + ", due is " + want);
        }
    }

    static void due(String what, boolean want, boolean got) {
        due(what, want ? 1 : 0, got ? 1 : 0);
    }

    static void wrong(String what) {
        wrong++;
        if (wrong <= MOST_TOLD) {
            System.out.println(about + what);
        }
    }

    /** Says how it went, and ends with 1 if something was wrong. */
    static void end(String test) {
        System.out.println(test + ": " + asked + " asked, " + wrong + " wrong");
        if (wrong > 0 || asked == 0) {
            System.exit(1);
        }
    }
}
