import java.util.NoSuchElementException;

/** Counts answers that are not as due, and ends the test by them. */
final class Check {
    private int wrong = 0;
    private int made = 0;

    void due(String call, long got, long want) {
        made++;
        if (got != want) {
            wrong++;
            System.out.println(call + " answered " + got + ", due is " + want);
        }
    }

    void due(String call, boolean got, boolean want) {
        due(call, got ? 1 : 0, want ? 1 : 0);
    }

    /** No such person, thing or what. */
    void none(String call, Runnable made) {
        throwing(call, NoSuchElementException.class, made);
    }

    /** A number out of its bounds. */
    void illegal(String call, Runnable made) {
        throwing(call, IllegalArgumentException.class, made);
    }

    private void throwing(String call, Class<?> kind, Runnable run) {
        made++;
        String got = "nothing";
        try {
            run.run();
        } catch (RuntimeException e) {
            if (e.getClass() == kind) {
                return;
            }
            got = e.getClass().getName();
        }
        wrong++;
        System.out.println(call + " threw " + got + ", due is " + kind.getName());
    }

    void end() {
        System.out.println(made + " answers, " + wrong + " not as due");
        if (wrong != 0) {
            System.exit(1);
        }
    }
}
