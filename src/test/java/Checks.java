import java.util.NoSuchElementException;
import java.util.function.IntSupplier;
import java.util.function.Supplier;
import java.util.function.ToIntFunction;

/** Counts checks, prints those that do not hold, and ends the program with 1 if there was one. */
final class Checks {
    private int made = 0;
    private int wrong = 0;

    void same(String what, int got, int due) {
        made++;
        if (got != due) {
            wrong++;
            System.out.println(what + " answered " + got + ", due is " + due);
        }
    }

    void holds(String what, boolean holds) {
        made++;
        if (!holds) {
            wrong++;
            System.out.println(what + " does not hold");
        }
    }

    /** The class must be the very one: a subclass would not be what the document names. */
    void throwing(String what, Class<? extends RuntimeException> due, IntSupplier call) {
        made++;
        String got;
        try {
            got = "answered " + call.getAsInt();
        } catch (RuntimeException e) {
            if (e.getClass() == due) {
                return;
            }
            got = "threw " + e.getClass().getSimpleName();
        }
        wrong++;
        System.out.println(what + " " + got + ", due is a throw of " + due.getSimpleName());
    }

    void outOfBounds(String what, IntSupplier call) {
        throwing(what, IndexOutOfBoundsException.class, call);
    }

    void illegalArgument(String what, IntSupplier call) {
        throwing(what, IllegalArgumentException.class, call);
    }

    void illegalState(String what, IntSupplier call) {
        throwing(what, IllegalStateException.class, call);
    }

    void unsupported(String what, IntSupplier call) {
        throwing(what, UnsupportedOperationException.class, call);
    }

    void noSuchElement(String what, IntSupplier call) {
        throwing(what, NoSuchElementException.class, call);
    }

    /** told(0) to told(7) in one row. */
    void told(String what, DefectDrive drive, int... due) {
        for (int k = 0; k < due.length; k++) {
            same(what + ": told(" + k + ")", drive.told(k), due[k]);
        }
    }

    /** The primary list in force, whole. */
    void primaries(String what, DefectDrive drive, int... due) {
        same(what + ": how many are primary", drive.told(3), due.length);
        for (int k = 0; k < due.length; k++) {
            same(what + ": primary(" + k + ")", drive.primary(k), due[k]);
        }
        outOfBounds(what + ": primary behind the last", () -> drive.primary(due.length));
    }

    void pair(String what, DefectDrive drive, int k, int first, int spare) {
        same(what + ": grown(" + k + ", false)", drive.grown(k, false), first);
        same(what + ": grown(" + k + ", true)", drive.grown(k, true), spare);
    }

    /** The call throws, and the drive is as one on which it was not made. */
    void refused(String what, Class<? extends RuntimeException> due, Supplier<DefectDrive> maker,
            ToIntFunction<DefectDrive> call) {
        for (int part = 0; part < Looks.PARTS; part++) {
            DefectDrive drive = maker.get();
            throwing(what, due, () -> call.applyAsInt(drive));
            unchanged(what, part, drive, maker.get());
        }
    }

    /** The call gives this answer, and the drive is as one on which it was not made. */
    void idle(String what, int due, Supplier<DefectDrive> maker, ToIntFunction<DefectDrive> call) {
        for (int part = 0; part < Looks.PARTS; part++) {
            DefectDrive drive = maker.get();
            same(what, call.applyAsInt(drive), due);
            unchanged(what, part, drive, maker.get());
        }
    }

    private void unchanged(String what, int part, DefectDrive drive, DefectDrive other) {
        String got = Looks.part(part, drive);
        String due = Looks.part(part, other);
        holds(what + ": nothing is changed, but it looks like " + got + ", due is " + due, got.equals(due));
    }

    void end() {
        System.out.println(made + " checks, " + wrong + " of them wrong");
        if (wrong != 0) {
            System.exit(1);
        }
    }
}
