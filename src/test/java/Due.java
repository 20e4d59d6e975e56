/** Compares answers with the ones that are due, and ends the program with 1 if one was wrong. */
final class Due {
    private final String test;
    private int compared;
    private int wrong;

    Due(String test) {
        this.test = test;
    }

    void due(long got, long want) {
        compared++;
        if (got != want) {
            int line = Thread.currentThread().getStackTrace()[2].getLineNumber();
            fail("line " + line + " answered " + got + ", due is " + want);
        }
    }

    void fail(String what) {
        wrong++;
        System.out.println(test + ": " + what);
    }

    void end() {
        System.out.println(test + ": " + compared + " answers, " + wrong + " wrong");
        if (wrong != 0 || compared == 0) {
            System.exit(1);
        }
    }
}
