import java.util.Random;
import java.util.function.IntSupplier;

/**
 * Mixed runs of 512 calls at most, the same ones every time, on DefectDrive and on PlainDrive. What
 * comes behind the mixed calls looks at the whole drive; one run cannot see all of it in 512 calls.
 */
public final class ModelTest {
    private static final int RUNS = 700;
    private static final int MOST_CALLS = 512;
    private static final int[] CALLS_OF_LOOK = {0, 192, 192, 192, 192, 192, 300};
    private static final Checks CHECKS = new Checks();
    private static final int[] FAR = {-1, -2, 2, 8, 12, 15, 16, 20, 48, 143, 191, 192,
        Integer.MIN_VALUE, Integer.MAX_VALUE};

    private final Random random;
    private final DefectDrive drive = new DefectDrive();
    private final PlainDrive plain = new PlainDrive();
    private final int run;
    private final int spoiling;
    private final int cutting;
    private int calls = 0;

    private ModelTest(int run) {
        this.run = run;
        random = new Random(run);
        spoiling = 1 + random.nextInt(25);
        cutting = random.nextInt(8);
    }

    public static void main(String[] args) {
        for (int run = 0; run < RUNS; run++) {
            ModelTest test = new ModelTest(run);
            int kind = run % CALLS_OF_LOOK.length;
            test.begin();
            while (test.calls < MOST_CALLS - CALLS_OF_LOOK[kind]) {
                test.one();
            }
            test.lookAtAll(kind);
            CHECKS.same("run " + run + ": calls", test.calls, MOST_CALLS);
        }
        CHECKS.end();
    }

    private void begin() {
        int defects = random.nextInt(4) == 0 ? 30 + random.nextInt(22) : random.nextInt(6);
        for (int k = 0; k < defects; k++) {
            factory(16 + random.nextInt(176));
        }
        if (random.nextInt(4) > 0) {
            format();
        }
    }

    private void one() {
        int dice = random.nextInt(100);
        if (dice < spoiling) {
            spoil(random.nextInt(3) == 0 ? spareSector() : placeOrSector(), random.nextBoolean());
        } else if (dice < 45) {
            int logical = logicalSector();
            both("reassign(" + logical + ")", () -> drive.reassign(logical), () -> plain.reassign(logical));
        } else if (dice < 60) {
            write(logicalSector(), word(), random.nextInt());
        } else if (dice < 75) {
            int logical = logicalSector();
            int i = word();
            both("read(" + logical + ", " + i + ")", () -> drive.read(logical, i), () -> plain.read(logical, i));
        } else if (dice < 75 + cutting) {
            cut();
        } else if (dice < 85) {
            both("start()", drive::start, plain::start);
        } else if (dice < 87) {
            format();
        } else if (dice < 88) {
            factory(random.nextInt(4) == 0 ? far() : random.nextInt(192));
        } else {
            look();
        }
    }

    private void cut() {
        int n = switch (random.nextInt(4)) {
            case 0 -> far();
            case 1 -> random.nextInt(190);
            default -> random.nextInt(12);
        };
        both("cutAfter(" + n + ")", () -> drive.cutAfter(n), () -> plain.cutAfter(n));
    }

    private void look() {
        int x = random.nextInt(3) == 0 ? far() : random.nextInt(192);
        int n = random.nextInt(3) == 0 ? far() : random.nextInt(150);
        boolean spare = random.nextBoolean();
        switch (random.nextInt(8)) {
            case 0 -> both("physical(" + x + ")", () -> drive.physical(x), () -> plain.physical(x));
            case 1 -> both("logical(" + x + ")", () -> drive.logical(x), () -> plain.logical(x));
            case 2 -> both("spares(" + x + ")", () -> drive.spares(x), () -> plain.spares(x));
            case 3 -> both("grown(" + x + ")", () -> drive.grown(x, spare), () -> plain.grown(x, spare));
            case 4 -> both("primary(" + x + ")", () -> drive.primary(x), () -> plain.primary(x));
            case 5 -> both("seeks(" + x + ", " + n + ")", () -> drive.seeks(x, n), () -> plain.seeks(x, n));
            case 6 -> both("state(" + x + ")", () -> drive.state(x), () -> plain.state(x));
            default -> both("told(" + x % 10 + ")", () -> drive.told(x % 10), () -> plain.told(x % 10));
        }
    }

    private void lookAtAll(int kind) {
        if (kind == 0) {
            return;
        }
        if (kind == 6) {
            lookAtLists();
            return;
        }
        for (int k = 0; k < 192; k++) {
            int x = k;
            switch (kind) {
                case 1 -> both("physical " + x, () -> drive.physical(x), () -> plain.physical(x));
                case 2 -> both("logical " + x, () -> drive.logical(x), () -> plain.logical(x));
                case 3 -> both("state " + x, () -> drive.state(x), () -> plain.state(x));
                case 4 -> both("first word " + x, () -> drive.read(x, 0), () -> plain.read(x, 0));
                default -> both("second word " + x, () -> drive.read(x, 1), () -> plain.read(x, 1));
            }
        }
    }

    private void lookAtLists() {
        for (int k = -1; k < 49; k++) {
            int x = k;
            both("spares " + x, () -> drive.spares(x), () -> plain.spares(x));
            both("grown " + x, () -> drive.grown(x, false), () -> plain.grown(x, false));
            both("grown spare " + x, () -> drive.grown(x, true), () -> plain.grown(x, true));
            both("primary " + x, () -> drive.primary(x), () -> plain.primary(x));
            both("told " + x, () -> drive.told(x), () -> plain.told(x));
            both("seeks " + x, () -> drive.seeks(0, 3 * x), () -> plain.seeks(0, 3 * x));
        }
    }

    private void factory(int sector) {
        both("factory(" + sector + ")", () -> drive.factory(sector), () -> plain.factory(sector));
    }

    private void format() {
        both("format()", drive::format, plain::format);
    }

    private void spoil(int sector, boolean weak) {
        both("spoil(" + sector + ", " + weak + ")",
                () -> drive.spoil(sector, weak), () -> plain.spoil(sector, weak));
    }

    private void write(int logical, int i, int v) {
        both("write(" + logical + ", " + i + ", " + v + ")",
                () -> drive.write(logical, i, v), () -> plain.write(logical, i, v));
    }

    /** Mostly a few sectors, so that the same ones are written, spoiled and moved again. */
    private int logicalSector() {
        return switch (random.nextInt(12)) {
            case 0 -> far();
            case 1, 2 -> random.nextInt(150);
            default -> random.nextInt(24);
        };
    }

    private int placeOrSector() {
        int capacity = plain.told(0);
        if (capacity > 0 && random.nextInt(5) > 0) {
            return plain.physical(random.nextInt(Math.min(24, capacity)));
        }
        return random.nextInt(4) == 0 ? far() : random.nextInt(192);
    }

    private int spareSector() {
        return (1 + random.nextInt(11)) * 16 + 13 + random.nextInt(3);
    }

    private int word() {
        return random.nextInt(12) == 0 ? far() : random.nextInt(2);
    }

    private int far() {
        return FAR[random.nextInt(FAR.length)];
    }

    private void both(String call, IntSupplier real, IntSupplier model) {
        calls++;
        String got = Looks.answer(real);
        String due = Looks.answer(model);
        if (due.endsWith("IndexOutOfBoundsException")) {
            // The library's lists throw a subclass in the model; the drive must throw the very class.
            due = "IndexOutOfBoundsException";
        }
        CHECKS.holds("run " + run + ": " + call + ": answer " + got + ", due is " + due, got.equals(due));
    }
}
