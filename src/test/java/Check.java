/** Counts and prints the calls whose answer is not the one that is due. */
final class Check {
    /** A call of the class, with its answer as text. */
    interface Call {
        Object run();
    }

    private int right = 0;
    private int wrong = 0;

    void due(String call, Object got, Object want) {
        if (want.equals(got)) {
            right++;
            return;
        }
        wrong++;
        System.out.println(call + " answered " + got + ", due is " + want);
    }

    void refused(String call, Class<? extends RuntimeException> want, Call made) {
        due(call, answer(made), "throws." + want.getSimpleName());
    }

    /** What a call answers, or the exact class that it throws. */
    static String answer(Call made) {
        try {
            return String.valueOf(made.run());
        } catch (RuntimeException e) {
            return "throws." + e.getClass().getSimpleName();
        }
    }

    /** Ends the program, with exit code 1 if an answer was wrong. */
    void end() {
        System.out.println(right + " passed, " + wrong + " failed");
        if (wrong != 0) {
            System.exit(1);
        }
    }
}
