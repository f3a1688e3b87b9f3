/** Drives in the states that the tests begin with. */
final class Drives {
    private Drives() {
    }

    static DefectDrive formatted() {
        DefectDrive drive = new DefectDrive();
        drive.format();
        return drive;
    }

    /** Formatted, with so many primary ones, from sector 16 on. */
    static DefectDrive withPrimaries(int primaries) {
        DefectDrive drive = new DefectDrive();
        for (int k = 0; k < primaries; k++) {
            drive.factory(16 + k);
        }
        drive.format();
        return drive;
    }

    /** Each of the logical sectors 0, 1, .. is moved from its weak place. */
    static DefectDrive withPairs(int primaries, int pairs) {
        DefectDrive drive = withPrimaries(primaries);
        for (int logical = 0; logical < pairs; logical++) {
            drive.spoil(drive.physical(logical), true);
            drive.reassign(logical);
        }
        return drive;
    }

    static DefectDrive withoutSpares() {
        DefectDrive drive = formatted();
        for (int cylinder = 1; cylinder < 12; cylinder++) {
            spoilSpares(drive, cylinder);
        }
        return drive;
    }

    static void spoilSpares(DefectDrive drive, int cylinder) {
        for (int k = 13; k < 16; k++) {
            drive.spoil(cylinder * 16 + k, true);
        }
    }

    /** By a format that is cut before it has written anything. */
    static DefectDrive cut(DefectDrive drive) {
        drive.cutAfter(0);
        drive.format();
        return drive;
    }
}
