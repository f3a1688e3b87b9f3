/** The example of README.md. */
public final class ReadmeTest {
    public static void main(String[] args) {
        Checks checks = new Checks();
        DefectDrive drive = new DefectDrive();
        checks.same("factory", drive.factory(17), 1);
        checks.same("format", drive.format(), 142);
        checks.same("write", drive.write(1, 0, 70), DefectDrive.DONE);
        checks.same("spoil", drive.spoil(18, true), DefectDrive.GOOD);
        checks.same("reassign", drive.reassign(1), DefectDrive.DONE);
        checks.same("physical", drive.physical(1), 29);
        checks.same("read", drive.read(1, 0), 70);
        checks.same("spoil the spare one", drive.spoil(29, true), DefectDrive.GOOD);
        checks.same("cutAfter", drive.cutAfter(2), 2);
        checks.same("reassign without power", drive.reassign(1), DefectDrive.OFF);
        checks.same("start", drive.start(), 2);
        checks.same("physical after start", drive.physical(1), 29);
        checks.end();
    }
}
