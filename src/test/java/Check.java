/** Compares answers with those that are due, and ends the program with exit code 1 if one was wrong. */
final class Check {
    private final String test;
    private int answers;
    private int wrong;

    Check(String test) {
        this.test = test;
    }

    void due(String call, int got, int want) {
        answers++;
        if (got != want) {
            wrong++;
            System.out.println(test + ": " + call + " answered " + got + ", due is " + want);
        }
    }

    void isTrue(String what, boolean holds) {
        due(what, holds ? 1 : 0, 1);
    }

    int wrong() {
        return wrong;
    }

    void end() {
        System.out.println(test + ": " + answers + " answers, " + wrong + " wrong");
        if (answers == 0 || wrong != 0) {
            System.exit(1);
        }
    }
}
