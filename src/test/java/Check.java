/** Compares answers with what is due, and ends a test: exit code 1, if one was not as due. */
final class Check {
    private static int made = 0;
    private static int wrong = 0;

    private Check() {
    }

    static void due(String what, long got, long want) {
        made++;
        if (got == want) return;
        wrong++;
        if (wrong <= 40) System.out.println(what + " answered " + got + ", due is " + want);
    }

    static void yes(String what, boolean holds) {
        due(what, holds ? 1 : 0, 1);
    }

    static void end(String test) {
        System.out.println(test + ": " + made + " checks, " + wrong + " wrong");
        if (wrong != 0 || made == 0) System.exit(1);
    }
}
