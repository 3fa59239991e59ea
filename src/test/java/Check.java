/** Compares answers with those that are due; a test ends by done(). */
final class Check {
    private final String name;
    private int asked;
    private int wrong;

    Check(String name) {
        this.name = name;
    }

    void is(String what, long got, long due) {
        asked++;
        if (got != due) {
            wrong++;
            System.out.println(name + ": " + what + " answered " + got + ", due is " + due);
        }
    }

    /** The answers of one thing asked again and again, in a row. */
    void row(String what, long[] got, long... due) {
        is(what + ": how many", got.length, due.length);
        for (int i = 0; i < Math.min(got.length, due.length); i++) {
            is(what + " " + i, got[i], due[i]);
        }
    }

    void done() {
        System.out.println(name + ": " + asked + " answers, " + wrong + " of them not as due");
        if (wrong > 0 || asked == 0) {
            System.exit(1);
        }
    }
}
