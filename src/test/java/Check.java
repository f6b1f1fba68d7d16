/** Counts the answers that are not the ones that are due. */
final class Check {
    private static final int MOST_TOLD = 50;

    private static int asked;
    private static int wrong;
    private static String part = "";

    private Check() { }

    /** What is looked at from now on belongs to this part of a test, which a wrong answer is told with. */
    static void begin(String name) {
        part = name + ": ";
    }

    static void due(String what, long got, long want) {
        asked++;
        if (got != want) {
            wrong++;
            if (wrong <= MOST_TOLD) {
                System.out.println(part + what + " answered " + got + ", due is " + want);
            }
        }
    }

    static void yes(String what, boolean got) {
        due(what, got ? 1 : 0, 1);
    }

    static void no(String what, boolean got) {
        due(what, got ? 1 : 0, 0);
    }

    static void end() {
        System.out.println(asked + " answers looked at, " + wrong + " not as due");
        if (asked == 0 || wrong != 0) {
            System.exit(1);
        }
    }
}
