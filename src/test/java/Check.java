/** Counts the answers of a test that are not as due, and ends the program accordingly. */
final class Check {
    private final String test;
    private int asked;
    private int wrong;

    Check(String test) {
        this.test = test;
    }

    void due(String call, long got, long want) {
        asked++;
        if (got != want) {
            wrong++;
            System.out.println(test + ": " + call + " answered " + got + ", due is " + want);
        }
    }

    void due(String call, boolean got, boolean want) {
        asked++;
        if (got != want) {
            wrong++;
            System.out.println(test + ": " + call + " answered " + got + ", due is " + want);
        }
    }

    void refusesArgument(String call, Runnable run) {
        refuses(call, run, IllegalArgumentException.class);
    }

    void refusesState(String call, Runnable run) {
        refuses(call, run, IllegalStateException.class);
    }

    void refusesNothing(String call, Runnable run) {
        refuses(call, run, null);
    }

    private void refuses(String call, Runnable run, Class<?> want) {
        asked++;
        Class<?> got = null;
        try {
            run.run();
        } catch (RuntimeException e) {
            got = e.getClass();
        }
        if (got != want) {
            wrong++;
            System.out.println(test + ": " + call + " throws " + name(got) + ", due is " + name(want));
        }
    }

    private static String name(Class<?> thrown) {
        return thrown == null ? "nothing" : thrown.getSimpleName();
    }

    void end() {
        if (asked == 0 || wrong != 0) {
            System.out.println(test + ": " + wrong + " of " + asked + " answers are not as due");
            System.exit(1);
        }
    }
}
