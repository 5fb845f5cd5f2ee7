/** Counts and prints the answers that are not the ones that are due. */
final class Expect {
    private final String test;
    private int asked;
    private int wrong;

    Expect(String test) {
        this.test = test;
    }

    void same(String what, long got, long due) {
        asked++;
        if (got != due) {
            wrong++;
            System.out.println(what + " answered " + got + ", due is " + due);
        }
    }

    void yes(String what, boolean got) {
        same(what, got ? 1 : 0, 1);
    }

    void no(String what, boolean got) {
        same(what, got ? 1 : 0, 0);
    }

    int wrongs() {
        return wrong;
    }

    /** Ends the program with exit code 1 if an answer was wrong, or none was asked for. */
    void end() {
        System.out.println(test + ": " + asked + " answers, " + wrong + " of them wrong");
        if (wrong != 0 || asked == 0) {
            System.exit(1);
        }
    }
}
