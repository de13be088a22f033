/** Counts what was compared, and prints what was not as it is due. */
final class Check {
    private static int compared;
    private static int wrong;

    private Check() {
    }

    static void same(String what, long got, long due) {
        compared++;
        if (got != due) {
            wrong++;
            System.out.println(what + " answered " + got + ", due is " + due);
        }
    }

    static void same(String what, boolean got, boolean due) {
        same(what, got ? 1 : 0, due ? 1 : 0);
    }

    static void isTrue(String what, boolean got) {
        same(what, got, true);
    }

    static void isFalse(String what, boolean got) {
        same(what, got, false);
    }

    /** Ends the test: with exit code 1 if an answer was wrong or nothing was compared. */
    static void end() {
        System.out.println(compared + " answers compared, " + wrong + " wrong");
        if (wrong != 0 || compared == 0) {
            System.exit(1);
        }
    }
}
