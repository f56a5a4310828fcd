/** Counts the calls of a test whose answer is not the one that is due, and prints them. */
final class Due {
    private int asked;
    private int wrong;

    void is(String call, long want, long got) {
        asked++;
        if (want != got) {
            wrong++;
            System.out.println(call + " answered " + got + ", due is " + want);
        }
    }

    /** Ends the test's program: with 1 if an answer was wrong, or if nothing was asked at all. */
    void end() {
        System.out.println(asked + " answers, " + wrong + " not as due");
        if (wrong != 0 || asked == 0) {
            System.exit(1);
        }
    }
}
