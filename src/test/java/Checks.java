/** Counts the answers of one test that are not as due. */
final class Checks {
    private int asked = 0;
    private int wrong = 0;

    void due(String call, long got, long want) {
        asked++;
        if (got != want) {
            wrong++;
            System.out.println(call + " answered " + got + ", due is " + want);
        }
    }

    void due(String call, boolean got, boolean want) {
        due(call, got ? 1 : 0, want ? 1 : 0);
    }

    void noPlaceOrThing(String call, Runnable run) {
        thrown(call, IndexOutOfBoundsException.class, run);
    }

    void outOfRange(String call, Runnable run) {
        thrown(call, IllegalArgumentException.class, run);
    }

    void notNow(String call, Runnable run) {
        thrown(call, IllegalStateException.class, run);
    }

    private void thrown(String call, Class<?> want, Runnable run) {
        asked++;
        RuntimeException got = null;
        try {
            run.run();
        } catch (RuntimeException e) {
            got = e;
        }
        if (got == null || got.getClass() != want || !isThrownByTheClass(got)) {
            wrong++;
            System.out.println(call + " threw " + got + ", due is " + want);
        }
    }

    /** Neither the machine nor the library may throw in the class, even if it is the exception that is due. */
    static boolean isThrownByTheClass(RuntimeException e) {
        StackTraceElement[] frames = e.getStackTrace();
        return frames.length > 0 && frames[0].getClassName().equals("ModelCopies");
    }

    void end(String test) {
        System.out.println(test + ": " + asked + " answers, " + wrong + " not as due");
        if (wrong != 0 || asked == 0) {
            System.exit(1);
        }
    }
}
