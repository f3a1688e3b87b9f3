import java.util.function.IntSupplier;

/**
 * What can be seen of a drive, as a text. It comes in parts of fewer than 300 calls, because
 * an object answers no more than 512 of them; each part wants a drive of its own.
 */
final class Looks {
    static final int PARTS = 4;

    private Looks() {
    }

    static String part(int part, DefectDrive drive) {
        StringBuilder text = new StringBuilder();
        switch (part) {
            case 0 -> counts(text, drive);
            case 1 -> lists(text, drive);
            case 2 -> words(text, drive, 0);
            default -> words(text, drive, 1);
        }
        return text.toString();
    }

    private static void counts(StringBuilder text, DefectDrive drive) {
        for (int what = 0; what < 8; what++) {
            text.append(" told ").append(drive.told(what));
        }
        for (int cylinder = 1; cylinder < 12; cylinder++) {
            text.append(" spares ").append(drive.spares(cylinder));
        }
        for (int sector = 0; sector < 192; sector++) {
            text.append(' ').append(drive.state(sector));
        }
    }

    private static void lists(StringBuilder text, DefectDrive drive) {
        int primaries = drive.told(3);
        for (int k = 0; k < primaries; k++) {
            text.append(" primary ").append(drive.primary(k));
        }
        int pairs = drive.told(2);
        for (int k = 0; k < pairs; k++) {
            text.append(" pair ").append(drive.grown(k, false)).append('-').append(drive.grown(k, true));
        }
        for (int sector = 0; sector < 192; sector++) {
            text.append(' ').append(drive.logical(sector));
        }
    }

    /** Started first: without power no word can be read, and so the lists of both copies are seen too. */
    private static void words(StringBuilder text, DefectDrive drive, int i) {
        text.append("version ").append(drive.start());
        int capacity = drive.told(0);
        for (int logical = 0; logical < capacity; logical++) {
            int asked = logical;
            text.append(' ').append(answer(() -> drive.read(asked, i)));
        }
    }

    static String answer(IntSupplier call) {
        try {
            return Integer.toString(call.getAsInt());
        } catch (RuntimeException e) {
            return e.getClass().getSimpleName();
        }
    }
}
