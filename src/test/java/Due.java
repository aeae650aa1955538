/** Counts the checks of a test, prints those that fail, and ends the program with 1 if any did. */
final class Due {
    private static int checks = 0;
    private static int wrong = 0;

    interface Call {
        void run();
    }

    interface IntCall {
        void run(int number);
    }

    interface CharCall {
        void run(char sign);
    }

    private Due() {
    }

    static void is(String what, long got, long due) {
        note(what, got == due, Long.toString(got), Long.toString(due));
    }

    static void is(String what, boolean got, boolean due) {
        note(what, got == due, Boolean.toString(got), Boolean.toString(due));
    }

    static void is(String what, char got, char due) {
        note(what, got == due, Character.toString(got), Character.toString(due));
    }

    static void is(String what, float got, float due) {
        note(what, got == due, Float.toString(got), Float.toString(due));
    }

    static void is(String what, double got, double due) {
        note(what, got == due, Double.toString(got), Double.toString(due));
    }

    /** Asks for an exception of this very class, not of one below it. */
    static void fails(String what, Class<? extends Exception> due, Call call) {
        String got = "nothing";
        boolean isDue = false;
        try {
            call.run();
        } catch (RuntimeException e) {
            got = e.getClass().getSimpleName();
            isDue = e.getClass() == due;
        }
        note(what, isDue, got, due.getSimpleName());
    }

    static void failsForEach(String what, Class<? extends Exception> due, IntCall call,
            int... numbers) {
        for (int number : numbers) {
            fails(what + " " + number, due, () -> call.run(number));
        }
    }

    static void failsForSigns(String what, Class<? extends Exception> due, CharCall call,
            char... signs) {
        for (char sign : signs) {
            fails(what + " " + (int) sign, due, () -> call.run(sign));
        }
    }

    static void note(String what, boolean isRight, String got, String due) {
        checks++;
        if (!isRight) {
            wrong++;
            System.out.println(what + ": " + got + ", due is " + due);
        }
    }

    static void end() {
        System.out.println(checks + " checks, " + wrong + " wrong");
        if (wrong != 0 || checks == 0) {
            System.exit(1);
        }
    }
}
