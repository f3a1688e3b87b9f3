import java.util.function.IntSupplier;

/** Counts checks, prints those that do not hold, and ends the program with 1 if there was one. */
final class Checks {
    private int made = 0;
    private int wrong = 0;

    void same(String what, int got, int due) {
        made++;
        if (got != due) {
            wrong++;
            System.out.println(what + " answered " + got + ", due is " + due);
        }
    }

    void holds(String what, boolean holds) {
        made++;
        if (!holds) {
            wrong++;
            System.out.println(what + " does not hold");
        }
    }

    /** The class must be the very one: a subclass would not be what the document names. */
    void throwing(String what, Class<? extends RuntimeException> due, IntSupplier call) {
        made++;
        String got;
        try {
            got = "answered " + call.getAsInt();
        } catch (RuntimeException e) {
            if (e.getClass() == due) {
                return;
            }
            got = "threw " + e.getClass().getSimpleName();
        }
        wrong++;
        System.out.println(what + " " + got + ", due is a throw of " + due.getSimpleName());
    }

    /** told(0) to told(7) in one row. */
    void told(String what, DefectDrive drive, int... due) {
        for (int k = 0; k < due.length; k++) {
            same(what + ": told(" + k + ")", drive.told(k), due[k]);
        }
    }

    void end() {
        System.out.println(made + " checks, " + wrong + " of them wrong");
        if (wrong != 0) {
            System.exit(1);
        }
    }
}
