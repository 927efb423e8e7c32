/** Counts the answers that are not the ones that are due, and prints each of them. */
final class Due {
    /** A call of the class under test. */
    interface Call {
        void run();
    }

    /** A call that asks for a place. */
    interface AtPlace {
        void at(int place);
    }

    private int looked = 0;
    private int wrong = 0;

    void is(String call, long got, long want) {
        looked++;
        if (got != want) {
            tell(call + " answered " + got + ", due is " + want);
        }
    }

    void is(String call, boolean got, boolean want) {
        looked++;
        if (got != want) {
            tell(call + " answered " + got + ", due is " + want);
        }
    }

    void is(String call, float got, float want) {
        looked++;
        if (Float.compare(got, want) != 0) {
            tell(call + " answered " + got + ", due is " + want);
        }
    }

    void is(String call, String got, String want) {
        looked++;
        if (!got.equals(want)) {
            tell(call + " answered " + got + ", due is " + want);
        }
    }

    /** A call must throw an exception of just this class, by a throw of its own and not by the machine or library. */
    void refuses(String call, Class<? extends RuntimeException> want, Call run) {
        looked++;
        String got = "nothing";
        try {
            run.run();
        } catch (RuntimeException thrown) {
            StackTraceElement[] trace = thrown.getStackTrace();
            boolean own = trace.length > 0 && trace[0].getClassName().startsWith("Aclsmith");
            got = thrown.getClass().getName() + (own ? "" : " (not its own)");
        }
        if (!got.equals(want.getName())) {
            tell(call + " throws " + got + ", due is " + want.getName());
        }
    }

    /** A call must refuse every place that a list of so many rules does not have. */
    void refusesPlaces(String call, int rules, AtPlace run) {
        int[] wrong = {-1, Integer.MIN_VALUE, rules, rules + 1, Integer.MAX_VALUE};
        for (int place : wrong) {
            refuses(call + "(" + place + ")", IndexOutOfBoundsException.class, () -> run.at(place));
        }
    }

    private void tell(String what) {
        wrong++;
        System.out.println(what);
    }

    /** Ends the program with exit code 1 if an answer was wrong. */
    void end(String name) {
        System.out.println(name + ": " + looked + " answers looked at, " + wrong + " wrong");
        if (wrong != 0) {
            System.exit(1);
        }
    }
}
