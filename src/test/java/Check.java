/** Compares answers with those that are due, and ends a test with exit code 1 if one differed. */
final class Check {
    static final int NONE = -1, BAD = -2, NO = -3, FULL = -4;
    static final int BAD_SUM = -2000000000, BAD_SCORE = -1000;
    static final int MIN = Integer.MIN_VALUE, MAX = Integer.MAX_VALUE;

    private final String test;
    private int wrong = 0;
    private int made = 0;

    Check(String test) {
        this.test = test;
    }

    static DawnFair withThings(int n) {
        DawnFair x = new DawnFair();
        for (int i = 0; i < n; i++) {
            x.thing(1);
        }
        return x;
    }

    void due(String what, long got, long want) {
        made++;
        if (got != want) {
            wrong++;
            System.out.println(test + ": " + what + " answered " + got + ", due is " + want);
        }
    }

    void holds(String what, boolean condition) {
        due(what, condition ? 1 : 0, 1);
    }

    int wrong() {
        return wrong;
    }

    void end() {
        System.out.println(test + ": " + made + " answers, " + wrong + " not as due");
        if (wrong != 0) {
            System.exit(1);
        }
    }
}
