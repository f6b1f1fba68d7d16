/** Counts the answers that are not the ones that are due. */
final class Check {
    private static final int MOST_TOLD = 200;
    private static final int MOST_TOLD_OF_A_PART = 5;

    private static int asked;
    private static int wrong;
    private static int told;
    private static int toldOfThisPart;
    private static String part = "";

    private Check() { }

    /** A test of its own: one that throws or asks nothing is wrong, and the others are run all the same. */
    static void part(String name, Runnable test) {
        begin(name);
        int askedBefore = asked;
        try {
            test.run();
        } catch (RuntimeException thrown) {
            wrong("threw " + thrown);
        }
        if (asked == askedBefore) {
            wrong("asked nothing");
        }
    }

    /** What is looked at from now on belongs to this part of a test, which a wrong answer is told with. */
    static void begin(String name) {
        part = name + ": ";
        toldOfThisPart = 0;
    }

    static void due(String what, long got, long want) {
        asked++;
        if (got != want) {
            wrong(what + " answered " + got + ", due is " + want);
        }
    }

    static void yes(String what, boolean got) {
        due(what, got ? 1 : 0, 1);
    }

    static void no(String what, boolean got) {
        due(what, got ? 1 : 0, 0);
    }

    private static void wrong(String what) {
        wrong++;
        if (told < MOST_TOLD && toldOfThisPart < MOST_TOLD_OF_A_PART) {
            told++;
            toldOfThisPart++;
            System.out.println(part + what);
        }
    }

    static void end() {
        System.out.println(asked + " answers looked at, " + wrong + " not as due");
        if (asked == 0 || wrong != 0) {
            System.exit(1);
        }
    }
}
