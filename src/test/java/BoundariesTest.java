import java.util.function.Supplier;

/** One method for each sentence of promises 1 to 17 that names a boundary; the sentence stands above it. */
public final class BoundariesTest {
    private static final int MIN = Integer.MIN_VALUE;
    private static final int MAX = Integer.MAX_VALUE;
    private static final Checks CHECKS = new Checks();

    public static void main(String[] args) {
        newObject();
        powerLastsForEverAtFirst();
        factoryCounts();
        factoryOfNoSector();
        factoryOfCylinder0OrTwice();
        factoryAfterFormat();
        factoryAfterFormatWithoutCapacity();
        formatTriesAllInOrder();
        formatWritesGoodOnesOnly();
        formatLeavesOthersAlone();
        formatEndsLostWords();
        formatVersions();
        formatPrimaries();
        formatWithoutDefects();
        formatEndsPairs();
        formatCutAnywhere();
        formatOfTooMany();
        formatCountsEachSectorOnce();
        writeOfAWord();
        writeEndsLost();
        writeDamaged();
        writeOff();
        writeOutOfBounds();
        readOutOfBounds();
        readOff();
        readBad();
        readLost();
        reassignTakesTheNearest();
        reassignCountsFromThePlace();
        reassignTakesTheLowerOfTwo();
        reassignTakesTheLeast();
        reassignPassesOver();
        reassignFromEndToEnd();
        reassignWordsOfWeak();
        reassignWordsOfBad();
        reassignPairs();
        reassignHealthy();
        reassignWithoutSpares();
        reassignWithTheLastSpare();
        reassignFullOfPairs();
        reassignFullOfEntries();
        reassignCutAnywhere();
        reassignBehindACut();
        reassignOutOfBounds();
        spoilWeak();
        spoilBad();
        spoilOutOfBounds();
        spoilOfCylinder0();
        cutAfterSomeWrites();
        cutAfterForEver();
        cutAfterBelow();
        startBringsPower();
        startWithoutLists();
        startWithOneCopy();
        startWithBothCopies();
        physicalOutOfBounds();
        logicalNone();
        logicalOutOfBounds();
        sparesFromThreeToNone();
        sparesOutOfBounds();
        grownOutOfBounds();
        primaryOutOfBounds();
        seeksOfOneAndOfAll();
        seeksOutOfBounds();
        seeksWrapAround();
        stateOutOfBounds();
        toldAll();
        toldNone();
        CHECKS.end();
    }

    // Promise 1: "All sectors good, no lists, capacity 0"

    private static void newObject() {
        DefectDrive d = new DefectDrive();
        for (int sector = 0; sector < 192; sector++) {
            CHECKS.same("new: state(" + sector + ")", d.state(sector), DefectDrive.GOOD);
        }
        CHECKS.told("new", d, 0, 0, 0, 0, 0, 0, 0, -1);
        CHECKS.outOfBounds("new: physical", () -> d.physical(0));
        CHECKS.outOfBounds("new: write", () -> d.write(0, 0, 1));
        CHECKS.outOfBounds("new: read", () -> d.read(0, 0));
        CHECKS.outOfBounds("new: reassign", () -> d.reassign(0));
        CHECKS.outOfBounds("new: seeks", () -> d.seeks(0, 1));
    }

    // Promise 1: "the power is on, and lasts for ever"

    private static void powerLastsForEverAtFirst() {
        DefectDrive d = new DefectDrive();
        for (int version = 1; version <= 500; version++) {
            CHECKS.same("for ever: format " + version, d.format(), 143);
        }
        CHECKS.told("for ever", d, 143, 500, 0, 0, 500 * 178, 0, 0, -1);
    }

    // Promise 2: "A sector is a FACTORY DEFECT: how many there are."

    private static void factoryCounts() {
        DefectDrive d = new DefectDrive();
        for (int sector = 16; sector < 192; sector++) {
            CHECKS.same("factory(" + sector + ")", d.factory(sector), sector - 15);
        }
        CHECKS.same("factory: all", d.told(6), 176);
        CHECKS.same("factory: they are good", d.state(16), DefectDrive.GOOD);
        CHECKS.same("factory: not primary yet", d.told(3), 0);
    }

    // Promise 2: "IndexOutOfBounds: there is no such sector."

    private static void factoryOfNoSector() {
        for (int sector : new int[] {-1, 192, MIN, MAX}) {
            CHECKS.refused("factory(" + sector + ")", IndexOutOfBoundsException.class, DefectDrive::new,
                    d -> d.factory(sector));
        }
        CHECKS.same("factory of the last", new DefectDrive().factory(191), 1);
    }

    // Promise 2: "IllegalArgument: it is of cylinder 0, or is one already."

    private static void factoryOfCylinder0OrTwice() {
        Supplier<DefectDrive> maker = () -> {
            DefectDrive d = new DefectDrive();
            d.factory(16);
            d.factory(191);
            return d;
        };
        for (int sector : new int[] {0, 15, 16, 191}) {
            CHECKS.refused("factory(" + sector + ")", IllegalArgumentException.class, maker,
                    d -> d.factory(sector));
        }
        CHECKS.same("factory of another", maker.get().factory(17), 3);
        DefectDrive spoiled = new DefectDrive();
        spoiled.spoil(16, false);
        CHECKS.same("factory of a bad one", spoiled.factory(16), 1);
    }

    // Promise 2: "IllegalState: format() has answered a capacity before."

    private static void factoryAfterFormat() {
        CHECKS.refused("factory after format", IllegalStateException.class, Drives::formatted,
                d -> d.factory(16));
        DefectDrive d = Drives.formatted();
        CHECKS.same("a later format is cut", Drives.cut(d).told(5), 1);
        CHECKS.illegalState("factory after a cut", () -> d.factory(16));
        d.start();
        CHECKS.illegalState("factory after a start", () -> d.factory(16));
    }

    private static void factoryAfterFormatWithoutCapacity() {
        DefectDrive d = new DefectDrive();
        for (int writes : new int[] {0, 100, 177}) {
            d.cutAfter(writes);
            CHECKS.same("format is cut after " + writes, d.format(), DefectDrive.OFF);
            CHECKS.same("factory while off", d.factory(16 + writes / 2), d.told(6));
            d.start();
            CHECKS.same("factory after OFF", d.factory(17 + writes / 2), d.told(6));
        }
        CHECKS.same("factory: six", d.told(6), 6);

        DefectDrive tooMany = new DefectDrive();
        for (int sector = 16; sector < 65; sector++) {
            tooMany.factory(sector);
        }
        CHECKS.illegalState("format throws", tooMany::format);
        CHECKS.same("factory after a throw", tooMany.factory(65), 50);
    }

    // Promise 3: "All sectors of cylinders 1 to 11 are tried, in order"

    private static void formatTriesAllInOrder() {
        for (int writes : new int[] {0, 1, 12, 13, 16, 17, 172, 173, 176, 177}) {
            DefectDrive d = Drives.formatted();
            for (int logical = 0; logical < 143; logical++) {
                d.write(logical, 1, 7);
            }
            d.cutAfter(writes);
            CHECKS.same("in order: cut after " + writes, d.format(), DefectDrive.OFF);
            CHECKS.same("in order: writes", d.told(4), 178 + 143 + writes);
            d.start();
            for (int logical : new int[] {0, 1, 12, 13, 14, 141, 142}) {
                boolean reached = d.physical(logical) < 16 + writes;
                CHECKS.same("in order: cut after " + writes + ": " + logical, d.read(logical, 1), reached ? 0 : 7);
            }
        }
    }

    // Promise 3: "a good one is written with two words 0, not lost; one that is not good is DEFECT"

    private static void formatWritesGoodOnesOnly() {
        DefectDrive d = new DefectDrive();
        d.factory(40);
        d.spoil(16, true);
        d.spoil(17, false);
        d.spoil(190, true);
        d.spoil(191, false);
        CHECKS.same("good ones only: capacity", d.format(), 143 - 3);
        CHECKS.same("good ones only: a factory defect is good", d.told(4), 172 + 3);
        CHECKS.primaries("good ones only", d, 16, 17, 40, 190, 191);

        DefectDrive none = new DefectDrive();
        for (int sector = 144; sector < 192; sector++) {
            none.spoil(sector, sector % 2 == 0);
        }
        CHECKS.same("48 defects: capacity", none.format(), 104);
        CHECKS.same("48 defects: writes", none.told(4), 128 + 1 + 6 + 1);
    }

    private static void formatLeavesOthersAlone() {
        for (int sector : new int[] {16, 100, 188}) {
            DefectDrive d = Drives.formatted();
            int logical = d.logical(sector);
            d.write(logical, 0, 5);
            d.write(logical, 1, 6);
            d.spoil(sector, true);
            d.cutAfter(176);
            CHECKS.same("others alone: cut behind all data", d.format(), DefectDrive.OFF);
            d.start();
            CHECKS.same("others alone: word 0 of " + sector, d.read(logical, 0), 5);
            CHECKS.same("others alone: word 1 of " + sector, d.read(logical, 1), 6);
        }
    }

    private static void formatEndsLostWords() {
        DefectDrive d = Drives.formatted();
        d.spoil(17, false);
        d.reassign(1);
        d.write(2, 0, 9);
        d.write(2, 1, 9);
        CHECKS.noSuchElement("lost before", () -> d.read(1, 0));
        CHECKS.same("lost words: format", d.format(), 142);
        d.spoil(16, true);
        d.reassign(0);
        CHECKS.same("lost words: the spare is used again", d.physical(0), 29);
        for (int logical = 0; logical < 142; logical++) {
            CHECKS.same("format: word 0 of " + logical, d.read(logical, 0), 0);
            CHECKS.same("format: word 1 of " + logical, d.read(logical, 1), 0);
        }
    }

    // Promise 3: "with a version one more than that in force (1 at first)"

    private static void formatVersions() {
        DefectDrive d = new DefectDrive();
        d.cutAfter(177);
        CHECKS.same("versions: cut", d.format(), DefectDrive.OFF);
        CHECKS.same("versions: none yet", d.start(), 0);
        for (int version = 1; version < 6; version++) {
            d.format();
            CHECKS.same("versions: format", d.told(1), version);
            d.cutAfter(177);
            CHECKS.same("versions: cut at " + version, d.format(), DefectDrive.OFF);
            CHECKS.same("versions: started at " + version, d.start(), version);
        }
        d.spoil(16, true);
        d.reassign(0);
        CHECKS.same("versions: reassign", d.told(1), 6);
        d.format();
        CHECKS.same("versions: format behind reassign", d.told(1), 7);
    }

    // Promise 3: "primary are factory defects, defects, and the first ones of all pairs in force, by numbers"

    private static void formatPrimaries() {
        DefectDrive d = new DefectDrive();
        for (int sector : new int[] {191, 100, 16}) {
            d.factory(sector);
        }
        d.spoil(150, false);
        d.spoil(29, true);
        d.format();
        CHECKS.primaries("by numbers", d, 16, 29, 100, 150, 191);
        d.spoil(180, true);
        d.reassign(d.logical(180));
        d.spoil(17, false);
        d.reassign(0);
        d.spoil(189, true);
        CHECKS.primaries("before the next format", d, 16, 29, 100, 150, 191);
        d.format();
        CHECKS.primaries("first ones of pairs", d, 16, 17, 29, 100, 150, 180, 189, 191);
        d.format();
        CHECKS.primaries("once more", d, 16, 17, 29, 100, 150, 180, 189, 191);
    }

    private static void formatWithoutDefects() {
        DefectDrive d = Drives.formatted();
        CHECKS.primaries("no defects", d);
        CHECKS.told("no defects", d, 143, 1, 0, 0, 176 + 2);
    }

    // Promise 3: "there are no pairs"

    private static void formatEndsPairs() {
        DefectDrive d = Drives.withPairs(0, 20);
        CHECKS.same("20 pairs", d.told(2), 20);
        CHECKS.same("20 pairs: spares of cylinder 1", d.spares(1), 0);
        CHECKS.same("20 pairs: format", d.format(), 123);
        CHECKS.told("20 pairs: format", d, 123, 22, 0, 20);
        CHECKS.outOfBounds("20 pairs: none is left", () -> d.grown(0, true));
        CHECKS.same("20 pairs: their spares are free", d.spares(1), 3);
        CHECKS.same("20 pairs: their spares are no places", d.logical(29), DefectDrive.NONE);
    }

    // Promise 3: "The capacity; or OFF."

    private static void formatCutAnywhere() {
        for (int entries : new int[] {0, 8, 9, 48}) {
            int needed = 176 + 2 + (entries + 7) / 8;
            for (int writes = needed - 10; writes <= needed + 1; writes++) {
                DefectDrive d = new DefectDrive();
                for (int k = 0; k < entries; k++) {
                    d.factory(16 + k);
                }
                d.cutAfter(writes);
                boolean enough = writes >= needed;
                int capacity = 143 - Math.min(entries, 39);
                String what = entries + " entries, cut after " + writes;
                CHECKS.same(what, d.format(), enough ? capacity : DefectDrive.OFF);
                CHECKS.told(what, d, enough ? capacity : 0, enough ? 1 : 0, 0, enough ? entries : 0,
                        Math.min(writes, needed), enough ? 0 : 1, entries, Math.max(0, writes - needed));
                CHECKS.same(what + ": start", d.start(), enough ? 1 : 0);
                CHECKS.same(what + ": capacity then", d.told(0), enough ? capacity : 0);
            }
        }
    }

    // Promise 3: "IllegalState: there would be more than 48 entries."

    private static void formatOfTooMany() {
        for (int defects = 47; defects < 50; defects++) {
            DefectDrive spoiled = new DefectDrive();
            DefectDrive mixed = new DefectDrive();
            for (int k = 0; k < defects; k++) {
                spoiled.spoil(16 + k, k % 2 == 0);
                if (k % 2 == 0) {
                    mixed.spoil(16 + k, false);
                } else {
                    mixed.factory(16 + k);
                }
            }
            for (DefectDrive d : new DefectDrive[] {spoiled, mixed}) {
                if (defects <= 48) {
                    CHECKS.same(defects + " defects", d.format(), 104);
                    CHECKS.same(defects + " defects: primary", d.told(3), defects);
                } else {
                    CHECKS.illegalState(defects + " defects", d::format);
                    CHECKS.told(defects + " defects", d, 0, 0, 0, 0, 0, 0);
                }
            }
        }
        DefectDrive pairs = Drives.withPairs(28, 20);
        CHECKS.same("28 primary ones and 20 pairs", pairs.format(), 143 - 25 - 20);
        CHECKS.same("28 primary ones and 20 pairs: primary", pairs.told(3), 48);
        pairs.spoil(191, true);
        CHECKS.illegalState("and one more", pairs::format);
    }

    private static void formatCountsEachSectorOnce() {
        DefectDrive d = new DefectDrive();
        for (int sector = 16; sector < 64; sector++) {
            d.factory(sector);
            d.spoil(sector, sector % 2 == 0);
        }
        CHECKS.same("48 that are both", d.format(), 104);
        CHECKS.same("48 that are both: primary", d.told(3), 48);
        CHECKS.same("48 that are both: writes", d.told(4), 128 + 1 + 6 + 1);
        CHECKS.same("48 that were primary before", d.format(), 104);
        CHECKS.same("48 that were primary before: primary", d.told(3), 48);
    }

    // Promise 4: "A word (i is 0 or 1) of a logical sector is written, if its place is good: DONE"

    private static void writeOfAWord() {
        DefectDrive d = Drives.formatted();
        for (int logical : new int[] {0, 142}) {
            CHECKS.same("write 0 of " + logical, d.write(logical, 0, MIN), DefectDrive.DONE);
            CHECKS.same("its other word stays", d.read(logical, 1), 0);
            CHECKS.same("write 1 of " + logical, d.write(logical, 1, MAX), DefectDrive.DONE);
            CHECKS.same("read 0 of " + logical, d.read(logical, 0), MIN);
            CHECKS.same("read 1 of " + logical, d.read(logical, 1), MAX);
        }
        CHECKS.same("four sector writes", d.told(4), 182);
    }

    // Promise 4: "and it is not lost then"

    private static void writeEndsLost() {
        for (int i = 0; i < 2; i++) {
            int written = i;
            DefectDrive d = Drives.formatted();
            d.spoil(16, false);
            d.reassign(0);
            CHECKS.noSuchElement("lost " + i, () -> d.read(0, written));
            CHECKS.same("write of a lost word", d.write(0, i, 0), DefectDrive.DONE);
            CHECKS.same("not lost " + i, d.read(0, i), 0);
            CHECKS.noSuchElement("the other is lost", () -> d.read(0, 1 - written));
        }
    }

    // Promise 4: "DAMAGED: the place is not good"

    private static void writeDamaged() {
        for (boolean weak : new boolean[] {true, false}) {
            CHECKS.idle("write at a spoiled place, weak " + weak, DefectDrive.DAMAGED, () -> {
                DefectDrive d = Drives.formatted();
                d.spoil(16, weak);
                d.cutAfter(0);
                return d;
            }, d -> d.write(0, 0, 4));
            CHECKS.idle("write at a spoiled spare, weak " + weak, DefectDrive.DAMAGED, () -> {
                DefectDrive d = Drives.withPairs(0, 1);
                d.spoil(29, weak);
                return d;
            }, d -> d.write(0, 1, 4));
        }
    }

    // Promise 4: "or OFF"

    private static void writeOff() {
        DefectDrive d = Drives.formatted();
        d.write(0, 0, 1);
        d.cutAfter(1);
        CHECKS.same("write: the last", d.write(0, 0, 2), DefectDrive.DONE);
        CHECKS.same("write: none is left", d.write(0, 0, 3), DefectDrive.OFF);
        CHECKS.same("write: it is off", d.write(0, 0, 4), DefectDrive.OFF);
        CHECKS.same("write: counted", d.told(4), 180);
        d.start();
        CHECKS.same("write: not done", d.read(0, 0), 2);
        CHECKS.same("write: on again", d.write(0, 0, 5), DefectDrive.DONE);
    }

    // Promise 4: "IndexOutOfBounds: there is no such logical sector, or word."

    private static void writeOutOfBounds() {
        for (int logical : new int[] {-1, 142, 143, MIN, MAX}) {
            CHECKS.refused("write(" + logical + ", 0, 1)", IndexOutOfBoundsException.class,
                    () -> Drives.withPrimaries(1), d -> d.write(logical, 0, 1));
        }
        for (int i : new int[] {-1, 2, MIN, MAX}) {
            CHECKS.refused("write(5, " + i + ", 1)", IndexOutOfBoundsException.class, Drives::formatted,
                    d -> d.write(5, i, 1));
        }
        DefectDrive damaged = Drives.formatted();
        damaged.spoil(16, false);
        CHECKS.outOfBounds("write of no word at a bad place", () -> damaged.write(0, 2, 1));
        CHECKS.outOfBounds("write without lists", () -> new DefectDrive().write(0, 0, 1));
    }

    // Promise 5: "IndexOutOfBounds: there is no such logical sector, or word."

    private static void readOutOfBounds() {
        DefectDrive d = Drives.withPrimaries(1);
        CHECKS.same("read of the first", d.read(0, 0), 0);
        CHECKS.same("read of the last", d.read(141, 1), 0);
        for (int logical : new int[] {-1, 142, 143, MIN, MAX}) {
            CHECKS.outOfBounds("read(" + logical + ", 0)", () -> d.read(logical, 0));
        }
        for (int i : new int[] {-1, 2, MIN, MAX}) {
            CHECKS.outOfBounds("read(0, " + i + ")", () -> d.read(0, i));
            CHECKS.outOfBounds("read(141, " + i + ")", () -> d.read(141, i));
        }
        CHECKS.outOfBounds("read without lists", () -> new DefectDrive().read(0, 0));
    }

    // Promise 5: "UnsupportedOperation: the power is off."

    private static void readOff() {
        DefectDrive d = Drives.formatted();
        d.cutAfter(0);
        CHECKS.same("read: on still, though none is left", d.read(0, 0), 0);
        d.write(0, 0, 1);
        CHECKS.unsupported("read: off", () -> d.read(0, 0));
        d.cutAfter(-1);
        CHECKS.unsupported("read: off still", () -> d.read(0, 0));
        d.start();
        CHECKS.same("read: on again", d.read(0, 0), 0);
    }

    // Promise 5: "IllegalState: its place is bad."

    private static void readBad() {
        DefectDrive d = Drives.formatted();
        d.spoil(16, false);
        CHECKS.illegalState("read: bad", () -> d.read(0, 0));
        d.spoil(16, true);
        CHECKS.illegalState("read: bad still", () -> d.read(0, 1));
        d.reassign(0);
        d.write(0, 0, 6);
        CHECKS.same("read: its own sector is bad, not its place", d.read(0, 0), 6);
        d.spoil(29, true);
        CHECKS.same("read: weak", d.read(0, 0), 6);
        d.spoil(29, false);
        CHECKS.illegalState("read: its spare is bad", () -> d.read(0, 0));
    }

    // Promise 5: "NoSuchElement: the word is lost."

    private static void readLost() {
        DefectDrive d = Drives.formatted();
        d.write(0, 0, 6);
        d.spoil(16, false);
        d.reassign(0);
        CHECKS.noSuchElement("read: word 0 is lost", () -> d.read(0, 0));
        CHECKS.noSuchElement("read: word 1 is lost", () -> d.read(0, 1));
        CHECKS.same("read: its neighbour is not", d.read(1, 0), 0);
        d.start();
        CHECKS.noSuchElement("read: lost after a start", () -> d.read(0, 0));
        d.spoil(29, true);
        CHECKS.noSuchElement("read: lost and weak", () -> d.read(0, 0));
    }

    // Promise 6: "that in the nearest cylinder to its place"

    private static void reassignTakesTheNearest() {
        DefectDrive d = Drives.formatted();
        move(d, 28, 29, "nearest: its own cylinder");
        for (int cylinder = 5; cylinder < 9; cylinder++) {
            Drives.spoilSpares(d, cylinder);
        }
        move(d, 80, 77, "nearest: one below");
        move(d, 140, 157, "nearest: one above");
        move(d, 108, 78, "nearest: two below, three above");
        move(d, 112, 158, "nearest: two above, three below");
    }

    private static void reassignCountsFromThePlace() {
        DefectDrive d = Drives.formatted();
        for (int cylinder = 4; cylinder < 8; cylinder++) {
            Drives.spoilSpares(d, cylinder);
        }
        move(d, 96, 141, "from the place: its own sector, in cylinder 6");
        move(d, 141, 142, "from the place: a spare, in cylinder 8");
        d.spoil(143, true);
        move(d, 142, 157, "from the place: cylinder 3 is as near to its own sector, 9 is nearer to its place");
    }

    private static void move(DefectDrive d, int place, int due, String what) {
        int logical = d.logical(place);
        d.spoil(place, true);
        CHECKS.same(what, d.reassign(logical), DefectDrive.DONE);
        CHECKS.same(what, d.physical(logical), due);
    }

    // Promise 6: "of several the least one"

    private static void reassignTakesTheLowerOfTwo() {
        for (int cylinder = 2; cylinder < 11; cylinder++) {
            for (int k : new int[] {0, 12}) {
                DefectDrive d = Drives.formatted();
                Drives.spoilSpares(d, cylinder);
                move(d, cylinder * 16 + k, (cylinder - 1) * 16 + 13, "the lower of two beside " + cylinder);
            }
        }
    }

    private static void reassignTakesTheLeast() {
        DefectDrive d = Drives.formatted();
        move(d, 188, 189, "the least of three");
        move(d, 176, 190, "the least of two");
        move(d, 177, 191, "the last one");
        move(d, 178, 173, "none is left");
    }

    // Promise 6: "of the spare sectors that are good, not primary, and stand for none"

    private static void reassignPassesOver() {
        DefectDrive d = new DefectDrive();
        d.factory(29);
        d.format();
        move(d, 16, 30, "a primary one is passed over, though it is good");
        d.spoil(31, true);
        move(d, 17, 45, "a weak one is passed over, and one that stands");
        d.spoil(46, false);
        move(d, 32, 47, "a bad one is passed over");
        move(d, 47, 61, "nothing is left in cylinders 1 and 2");
    }

    private static void reassignFromEndToEnd() {
        DefectDrive up = withoutSparesBut(191);
        move(up, 16, 191, "from the first cylinder to the last");
        CHECKS.same("to the last: no more spares", up.spares(11), 0);
        DefectDrive down = withoutSparesBut(29);
        move(down, 188, 29, "from the last cylinder to the first");
        CHECKS.same("to the first: no more spares", down.spares(1), 0);
    }

    private static DefectDrive withoutSparesBut(int left) {
        DefectDrive d = Drives.formatted();
        for (int sector = 16; sector < 192; sector++) {
            if (sector % 16 >= 13 && sector != left) {
                d.spoil(sector, sector % 2 == 0);
            }
        }
        return d;
    }

    // Promise 6: "written with the words of the old place as they are, if that is weak"

    private static void reassignWordsOfWeak() {
        DefectDrive d = Drives.formatted();
        d.write(0, 0, MIN);
        d.write(0, 1, MAX);
        d.spoil(16, true);
        CHECKS.same("weak", d.reassign(0), DefectDrive.DONE);
        CHECKS.same("weak: word 0", d.read(0, 0), MIN);
        CHECKS.same("weak: word 1", d.read(0, 1), MAX);
        for (int i = 0; i < 2; i++) {
            int kept = i;
            DefectDrive lost = Drives.formatted();
            lost.spoil(16, false);
            lost.reassign(0);
            lost.write(0, kept, 3);
            lost.spoil(29, true);
            CHECKS.same("weak, a word is lost", lost.reassign(0), DefectDrive.DONE);
            CHECKS.same("the word that is not lost", lost.read(0, kept), 3);
            CHECKS.noSuchElement("the word that is lost", () -> lost.read(0, 1 - kept));
        }
    }

    // Promise 6: "or with two lost ones"; "DAMAGED: the same, but the place was bad, the words are lost"

    private static void reassignWordsOfBad() {
        DefectDrive d = Drives.formatted();
        d.write(0, 0, 5);
        d.spoil(16, true);
        d.spoil(16, false);
        CHECKS.same("bad", d.reassign(0), DefectDrive.DAMAGED);
        CHECKS.told("bad: the same", d, 143, 2, 1, 0, 178 + 1 + 4);
        CHECKS.pair("bad", d, 0, 16, 29);
        CHECKS.noSuchElement("bad: word 0", () -> d.read(0, 0));
        CHECKS.noSuchElement("bad: word 1", () -> d.read(0, 1));
        CHECKS.same("bad: the new place is good", d.write(0, 0, 6), DefectDrive.DONE);
        CHECKS.same("bad: written again", d.read(0, 0), 6);
    }

    // Promise 6: "in the place of a pair's that did, or as the last pair"

    private static void reassignPairs() {
        DefectDrive d = Drives.withPairs(0, 3);
        CHECKS.pair("pairs: first", d, 0, 16, 29);
        CHECKS.pair("pairs: middle", d, 1, 17, 30);
        CHECKS.pair("pairs: last", d, 2, 18, 31);
        move(d, 29, 45, "pairs: the first again");
        move(d, 31, 46, "pairs: the last again");
        CHECKS.pair("pairs: first, again", d, 0, 16, 45);
        CHECKS.pair("pairs: middle, as it was", d, 1, 17, 30);
        CHECKS.pair("pairs: last, again", d, 2, 18, 46);
        CHECKS.same("pairs: how many", d.told(2), 3);
        move(d, 188, 189, "pairs: a new one");
        CHECKS.pair("pairs: as the last", d, 3, 188, 189);
        CHECKS.same("pairs: one more", d.told(2), 4);
        CHECKS.same("pairs: a version each", d.told(1), 1 + 3 + 2 + 1);
    }

    // Promise 6: "HEALTHY: the place is good"

    private static void reassignHealthy() {
        CHECKS.idle("healthy", DefectDrive.HEALTHY, Drives::formatted, d -> d.reassign(0));
        CHECKS.idle("healthy: the last", DefectDrive.HEALTHY, Drives::formatted, d -> d.reassign(142));
        CHECKS.idle("healthy: its spare is good", DefectDrive.HEALTHY, () -> Drives.withPairs(2, 1),
                d -> d.reassign(0));
        CHECKS.idle("healthy: without spares", DefectDrive.HEALTHY, Drives::withoutSpares,
                d -> d.reassign(0));
        CHECKS.idle("healthy: full of pairs", DefectDrive.HEALTHY, () -> Drives.withPairs(0, 20),
                d -> d.reassign(20));
        CHECKS.idle("healthy: none is left", DefectDrive.HEALTHY, () -> {
            DefectDrive d = Drives.formatted();
            d.cutAfter(0);
            return d;
        }, d -> d.reassign(0));
    }

    // Promise 6: "FULL: there is no such spare"

    private static void reassignWithoutSpares() {
        for (boolean weak : new boolean[] {true, false}) {
            CHECKS.idle("no spare, weak " + weak, DefectDrive.FULL, () -> {
                DefectDrive d = Drives.withoutSpares();
                d.spoil(16, weak);
                d.cutAfter(0);
                return d;
            }, d -> d.reassign(0));
        }
        CHECKS.idle("33 primary spares, all of them good", DefectDrive.FULL, () -> {
            DefectDrive d = new DefectDrive();
            for (int cylinder = 1; cylinder < 12; cylinder++) {
                for (int k = 13; k < 16; k++) {
                    d.factory(cylinder * 16 + k);
                }
            }
            d.format();
            d.spoil(188, true);
            return d;
        }, d -> d.reassign(142));
    }

    private static void reassignWithTheLastSpare() {
        DefectDrive d = withoutSparesBut(109);
        move(d, 16, 109, "the last spare");
        d.spoil(17, true);
        CHECKS.same("no spare behind the last", d.reassign(1), DefectDrive.FULL);
        d.spoil(109, true);
        CHECKS.same("no other spare for the pair", d.reassign(0), DefectDrive.FULL);
        CHECKS.pair("the pair is as it was", d, 0, 16, 109);
        CHECKS.same("the weak spare can be read", d.read(0, 0), 0);
    }

    // Promise 6: "or there would be more than 20 pairs"

    private static void reassignFullOfPairs() {
        Supplier<DefectDrive> maker = () -> {
            DefectDrive d = Drives.withPairs(0, 20);
            d.spoil(d.physical(20), false);
            return d;
        };
        CHECKS.idle("the 21st pair", DefectDrive.FULL, maker, d -> d.reassign(20));
        DefectDrive d = maker.get();
        for (int logical : new int[] {0, 19}) {
            d.spoil(d.physical(logical), true);
            CHECKS.same("20 pairs: another spare for " + logical, d.reassign(logical), DefectDrive.DONE);
            CHECKS.same("20 pairs: still", d.told(2), 20);
            CHECKS.same("20 pairs: its spare", d.grown(logical, true), d.physical(logical));
        }
    }

    // Promise 6: "or 48 entries"

    private static void reassignFullOfEntries() {
        for (int pairs : new int[] {0, 1, 19}) {
            Supplier<DefectDrive> maker = () -> {
                DefectDrive d = Drives.withPairs(48 - pairs, pairs);
                d.spoil(d.physical(pairs), true);
                return d;
            };
            String what = "48 entries, " + pairs + " pairs";
            CHECKS.idle(what + ": one more", DefectDrive.FULL, maker, d -> d.reassign(pairs));
            if (pairs > 0) {
                DefectDrive d = maker.get();
                d.spoil(d.physical(pairs - 1), true);
                CHECKS.same(what + ": another spare", d.reassign(pairs - 1), DefectDrive.DONE);
                CHECKS.told(what + ": still", d, d.told(0), pairs + 2, pairs, 48 - pairs);
            }
        }
    }

    // Promise 6: "or OFF"

    private static void reassignCutAnywhere() {
        for (int primaries : new int[] {0, 7, 8, 47}) {
            int needed = 3 + (primaries + 8) / 8;
            for (int writes = 0; writes <= needed + 1; writes++) {
                DefectDrive d = Drives.withPrimaries(primaries);
                d.write(0, 0, 77);
                int own = d.physical(0);
                d.spoil(own, true);
                int before = d.told(4);
                d.cutAfter(writes);
                boolean enough = writes >= needed;
                String what = primaries + " primary ones, cut after " + writes;
                CHECKS.same(what, d.reassign(0), enough ? DefectDrive.DONE : DefectDrive.OFF);
                CHECKS.told(what, d, d.told(0), enough ? 2 : 1, enough ? 1 : 0, primaries,
                        before + Math.min(writes, needed), enough ? 0 : 1, primaries, Math.max(0, writes - needed));
                CHECKS.same(what + ": start", d.start(), enough ? 2 : 1);
                CHECKS.holds(what + ": place", (d.physical(0) == own) != enough);
                CHECKS.same(what + ": word", d.read(0, 0), 77);
                CHECKS.same(what + ": again", d.reassign(0), enough ? DefectDrive.HEALTHY : DefectDrive.DONE);
                CHECKS.same(what + ": version then", d.told(1), 2);
            }
        }
    }

    // Promise 6: "lists are written, of the next version, in which it stands for the logical sector's own sector"

    private static void reassignBehindACut() {
        DefectDrive d = new DefectDrive();
        d.factory(20);
        d.factory(21);
        d.format();
        d.spoil(16, true);
        d.cutAfter(175 + 2);
        CHECKS.same("behind a cut: format", d.format(), DefectDrive.OFF);
        d.start();
        move(d, 18, 29, "behind a cut: lists without its entries");
        CHECKS.primaries("behind a cut", d, 20, 21);
        CHECKS.pair("behind a cut", d, 0, 18, 29);
        CHECKS.told("behind a cut", d, 141, 2, 1, 2);
        d.spoil(29, true);
        d.cutAfter(3);
        CHECKS.same("behind a cut: reassign", d.reassign(2), DefectDrive.OFF);
        d.start();
        move(d, 19, 30, "behind a cut: lists without its pair");
        CHECKS.pair("behind a cut: the pair in force", d, 0, 18, 29);
        CHECKS.pair("behind a cut: the new pair", d, 1, 19, 30);
        CHECKS.told("behind a cut: again", d, 141, 3, 2, 2);
    }

    // Promise 6: "IndexOutOfBounds: there is no such logical sector."

    private static void reassignOutOfBounds() {
        for (int logical : new int[] {-1, 142, 143, MIN, MAX}) {
            CHECKS.refused("reassign(" + logical + ")", IndexOutOfBoundsException.class,
                    () -> Drives.withPrimaries(1), d -> d.reassign(logical));
        }
        CHECKS.outOfBounds("reassign without lists", () -> new DefectDrive().reassign(0));
    }

    // Promise 7: "A good sector is WEAK from now on (on weak; one that is not good stays as it is)"

    private static void spoilWeak() {
        DefectDrive d = new DefectDrive();
        CHECKS.same("good, then weak", d.spoil(16, true), DefectDrive.GOOD);
        CHECKS.same("weak", d.state(16), DefectDrive.WEAK);
        CHECKS.same("weak, then weak", d.spoil(16, true), DefectDrive.WEAK);
        CHECKS.same("weak as it was", d.state(16), DefectDrive.WEAK);
        d.spoil(191, false);
        CHECKS.same("bad, then weak", d.spoil(191, true), DefectDrive.BAD);
        CHECKS.same("bad as it was", d.state(191), DefectDrive.BAD);
    }

    // Promise 7: "or a sector is BAD: how it was"

    private static void spoilBad() {
        DefectDrive d = new DefectDrive();
        CHECKS.same("good, then bad", d.spoil(16, false), DefectDrive.GOOD);
        CHECKS.same("bad", d.state(16), DefectDrive.BAD);
        CHECKS.same("bad, then bad", d.spoil(16, false), DefectDrive.BAD);
        CHECKS.same("bad still", d.state(16), DefectDrive.BAD);
        d.spoil(191, true);
        CHECKS.same("weak, then bad", d.spoil(191, false), DefectDrive.WEAK);
        CHECKS.same("bad as well", d.state(191), DefectDrive.BAD);
        CHECKS.same("its neighbour is good", d.state(190), DefectDrive.GOOD);
    }

    // Promise 7: "IndexOutOfBounds: there is no such sector."

    private static void spoilOutOfBounds() {
        for (int sector : new int[] {-1, 192, MIN, MAX}) {
            for (boolean weak : new boolean[] {true, false}) {
                CHECKS.refused("spoil(" + sector + ")", IndexOutOfBoundsException.class, DefectDrive::new,
                        d -> d.spoil(sector, weak));
            }
        }
    }

    // Promise 7: "IllegalArgument: it is of cylinder 0."

    private static void spoilOfCylinder0() {
        for (int sector : new int[] {0, 15}) {
            for (boolean weak : new boolean[] {true, false}) {
                CHECKS.refused("spoil(" + sector + ")", IllegalArgumentException.class, DefectDrive::new,
                        d -> d.spoil(sector, weak));
            }
        }
        CHECKS.same("spoil(16)", new DefectDrive().spoil(16, false), DefectDrive.GOOD);
    }

    // Promise 8: "Power lasts for n sector writes more"

    private static void cutAfterSomeWrites() {
        for (int n = 0; n < 4; n++) {
            DefectDrive d = Drives.formatted();
            CHECKS.same("cutAfter(" + n + ")", d.cutAfter(n), n);
            CHECKS.same("cutAfter(" + n + "): on", d.told(5), 0);
            for (int k = n; k > 0; k--) {
                CHECKS.same("cutAfter(" + n + "): left", d.told(7), k);
                CHECKS.same("cutAfter(" + n + "): write", d.write(0, 0, k), DefectDrive.DONE);
            }
            CHECKS.same("cutAfter(" + n + "): none is left", d.told(7), 0);
            CHECKS.same("cutAfter(" + n + "): on still", d.told(5), 0);
            CHECKS.same("cutAfter(" + n + "): cut", d.write(0, 0, 9), DefectDrive.OFF);
            CHECKS.same("cutAfter(" + n + "): off", d.told(5), 1);
        }
        DefectDrive d = Drives.formatted();
        CHECKS.same("cutAfter of most", d.cutAfter(MAX), MAX);
        d.write(0, 0, 1);
        CHECKS.same("one less than most", d.told(7), MAX - 1);
        d.cutAfter(1);
        d.cutAfter(2);
        d.write(0, 0, 1);
        CHECKS.same("the last cutAfter counts", d.write(0, 0, 1), DefectDrive.DONE);
    }

    // Promise 8: "or for ever, if n is -1: n"

    private static void cutAfterForEver() {
        DefectDrive d = Drives.formatted();
        d.cutAfter(0);
        CHECKS.same("cutAfter(-1)", d.cutAfter(-1), -1);
        for (int k = 0; k < 20; k++) {
            CHECKS.same("for ever", d.write(0, 0, k), DefectDrive.DONE);
            CHECKS.same("for ever: told", d.told(7), -1);
        }
        Drives.cut(d);
        CHECKS.same("cutAfter(-1) while off", d.cutAfter(-1), -1);
        CHECKS.same("it brings no power", d.told(5), 1);
        CHECKS.same("it brings no write", d.write(0, 0, 1), DefectDrive.OFF);
    }

    // Promise 8: "IllegalArgument: it is below -1."

    private static void cutAfterBelow() {
        for (int n : new int[] {-2, -3, MIN}) {
            CHECKS.refused("cutAfter(" + n + ")", IllegalArgumentException.class, () -> {
                DefectDrive d = Drives.formatted();
                d.cutAfter(5);
                return d;
            }, d -> d.cutAfter(n));
        }
    }

    // Promise 9: "The power is on, and lasts for ever"

    private static void startBringsPower() {
        DefectDrive d = Drives.formatted();
        d.cutAfter(1);
        CHECKS.same("start: while on", d.start(), 1);
        CHECKS.same("start: for ever", d.told(7), -1);
        Drives.cut(d);
        d.cutAfter(1);
        CHECKS.same("start: while off", d.start(), 1);
        CHECKS.told("start", d, 143, 1, 0, 0, 178, 0, 0, -1);
        CHECKS.same("start: a write", d.write(0, 0, 1), DefectDrive.DONE);
        CHECKS.same("start: another write", d.write(0, 0, 2), DefectDrive.DONE);
    }

    // Promise 9: "that version, 0 without any"

    private static void startWithoutLists() {
        DefectDrive d = new DefectDrive();
        CHECKS.same("start of a new one", d.start(), 0);
        Drives.cut(d);
        CHECKS.same("start after a cut at once", d.start(), 0);
        d.cutAfter(177);
        d.format();
        CHECKS.same("start after a cut before the mark", d.start(), 0);
        CHECKS.told("start without lists", d, 0, 0, 0, 0, 177, 0, 0, -1);
        CHECKS.same("start without lists: format", d.format(), 143);
    }

    // Promise 9: "in force are the lists of the copy with a closing mark"

    private static void startWithOneCopy() {
        DefectDrive a = Drives.withPrimaries(2);
        a.cutAfter(176 + 2);
        CHECKS.same("only A has a mark", a.format(), DefectDrive.OFF);
        CHECKS.same("only A: start", a.start(), 1);
        CHECKS.primaries("only A", a, 16, 17);

        DefectDrive b = Drives.withPrimaries(2);
        b.spoil(20, true);
        b.format();
        b.spoil(30, true);
        b.cutAfter(174 + 2);
        CHECKS.same("only B has a mark", b.format(), DefectDrive.OFF);
        CHECKS.same("only B: start", b.start(), 2);
        CHECKS.primaries("only B", b, 16, 17, 20);
    }

    // Promise 9: "of both the one of the higher version"

    private static void startWithBothCopies() {
        DefectDrive d = Drives.formatted();
        for (int version = 2; version < 8; version++) {
            d.spoil(16 + version, true);
            d.reassign(version);
            CHECKS.same("both copies: start", d.start(), version);
            CHECKS.told("both copies", d, 143, version, version - 1, 0);
            CHECKS.same("both copies: the last pair", d.grown(version - 2, false), 16 + version);
            d.spoil(100, true);
            d.cutAfter(1);
            CHECKS.same("both copies: cut before the lists", d.reassign(d.logical(100)), DefectDrive.OFF);
            CHECKS.same("both copies: the higher one still", d.start(), version);
        }
    }

    // Promise 10: "IndexOutOfBounds: there is none."

    private static void physicalOutOfBounds() {
        DefectDrive d = Drives.withPrimaries(1);
        CHECKS.same("physical of the first", d.physical(0), 17);
        CHECKS.same("physical of the last", d.physical(141), 188);
        for (int logical : new int[] {-1, 142, 143, MIN, MAX}) {
            CHECKS.outOfBounds("physical(" + logical + ")", () -> d.physical(logical));
        }
        CHECKS.outOfBounds("physical without lists", () -> new DefectDrive().physical(0));
    }

    // Promise 11: "The logical sector whose place a sector is; NONE."

    private static void logicalNone() {
        DefectDrive d = Drives.withPrimaries(1);
        for (int sector : new int[] {0, 15, 16, 29, 31, 189, 191}) {
            CHECKS.same("logical(" + sector + ")", d.logical(sector), DefectDrive.NONE);
        }
        CHECKS.same("logical of the first", d.logical(17), 0);
        CHECKS.same("logical of the last", d.logical(188), 141);
        d.spoil(17, false);
        CHECKS.same("a bad place is a place", d.logical(17), 0);
        d.reassign(0);
        CHECKS.same("no place any more", d.logical(17), DefectDrive.NONE);
        CHECKS.same("a spare place", d.logical(29), 0);
        move(d, 29, 30, "moved again");
        CHECKS.same("a spare one is no place any more", d.logical(29), DefectDrive.NONE);
        CHECKS.same("the next spare place", d.logical(30), 0);
    }

    // Promise 11: "IndexOutOfBounds: there is no such sector."

    private static void logicalOutOfBounds() {
        for (DefectDrive d : new DefectDrive[] {new DefectDrive(), Drives.formatted()}) {
            for (int sector : new int[] {-1, 192, MIN, MAX}) {
                CHECKS.outOfBounds("logical(" + sector + ")", () -> d.logical(sector));
            }
            CHECKS.same("logical(0)", d.logical(0), DefectDrive.NONE);
            CHECKS.same("logical(191)", d.logical(191), DefectDrive.NONE);
        }
    }

    // Promise 12: "How many spare sectors of a cylinder are good, not primary, and stand for none."

    private static void sparesFromThreeToNone() {
        DefectDrive d = new DefectDrive();
        d.factory(29);
        CHECKS.same("spares: no lists, so none is primary", d.spares(1), 3);
        d.format();
        CHECKS.same("spares: one is primary", d.spares(1), 2);
        move(d, 16, 30, "spares: reassign");
        CHECKS.same("spares: one stands", d.spares(1), 1);
        d.spoil(31, true);
        CHECKS.same("spares: one is weak", d.spares(1), 0);
        d.spoil(29, false);
        d.spoil(30, false);
        CHECKS.same("spares: each counts once", d.spares(1), 0);
        d.spoil(188, false);
        CHECKS.same("spares: one that is not spare is bad", d.spares(11), 3);
        d.spoil(191, false);
        CHECKS.same("spares: one is bad", d.spares(11), 2);
    }

    // Promise 12: "IndexOutOfBounds: there is no such cylinder, or it is 0."

    private static void sparesOutOfBounds() {
        for (DefectDrive d : new DefectDrive[] {new DefectDrive(), Drives.formatted()}) {
            for (int cylinder : new int[] {0, -1, 12, MIN, MAX}) {
                CHECKS.outOfBounds("spares(" + cylinder + ")", () -> d.spares(cylinder));
            }
            CHECKS.same("spares(1)", d.spares(1), 3);
            CHECKS.same("spares(11)", d.spares(11), 3);
        }
    }

    // Promise 13: "IndexOutOfBounds: there is none."

    private static void grownOutOfBounds() {
        for (int pairs : new int[] {0, 1, 20}) {
            DefectDrive d = Drives.withPairs(3, pairs);
            for (int k : new int[] {-1, pairs, pairs + 1, 48, MIN, MAX}) {
                CHECKS.outOfBounds(pairs + " pairs: grown(" + k + ", false)", () -> d.grown(k, false));
                CHECKS.outOfBounds(pairs + " pairs: grown(" + k + ", true)", () -> d.grown(k, true));
            }
            if (pairs > 0) {
                CHECKS.pair(pairs + " pairs: first", d, 0, 19, d.physical(0));
                CHECKS.same(pairs + " pairs: last", d.grown(pairs - 1, true), d.physical(pairs - 1));
            }
        }
        CHECKS.outOfBounds("grown without lists", () -> new DefectDrive().grown(0, true));
    }

    // Promise 14: "IndexOutOfBounds: there is none."

    private static void primaryOutOfBounds() {
        for (int primaries : new int[] {0, 1, 46, 48}) {
            DefectDrive d = Drives.withPairs(primaries, primaries == 48 ? 0 : 2);
            for (int k : new int[] {-1, primaries, primaries + 1, 48, MIN, MAX}) {
                CHECKS.outOfBounds(primaries + " primary ones: primary(" + k + ")", () -> d.primary(k));
            }
            if (primaries > 0) {
                CHECKS.same(primaries + " primary ones: first", d.primary(0), 16);
                CHECKS.same(primaries + " primary ones: last", d.primary(primaries - 1), 15 + primaries);
            }
        }
        CHECKS.outOfBounds("primary without lists", () -> new DefectDrive().primary(0));
    }

    // Promise 15: "How often the cylinder changes from one place to the next one"

    private static void seeksOfOneAndOfAll() {
        DefectDrive d = Drives.formatted();
        CHECKS.same("seeks: the first", d.seeks(0, 1), 0);
        CHECKS.same("seeks: the last", d.seeks(142, 1), 0);
        CHECKS.same("seeks: over a border", d.seeks(12, 2), 1);
        CHECKS.same("seeks: up to a border", d.seeks(11, 2), 0);
        CHECKS.same("seeks: from a border", d.seeks(13, 2), 0);
        CHECKS.same("seeks: all", d.seeks(0, 143), 10);
        Drives.spoilSpares(d, 1);
        move(d, 28, 45, "seeks: the last of cylinder 1 goes to 2");
        CHECKS.same("seeks: a place changes, not its sector", d.seeks(11, 2), 1);
        CHECKS.same("seeks: no change at the old border", d.seeks(12, 2), 0);
        CHECKS.same("seeks: all, as many", d.seeks(0, 143), 10);
        move(d, 20, 46, "seeks: one in the middle goes to 2");
        CHECKS.same("seeks: there and back", d.seeks(3, 3), 2);
        CHECKS.same("seeks: all, two more", d.seeks(0, 143), 12);
    }

    // Promise 15: "IndexOutOfBounds: n is below 1, or there are not so many."

    private static void seeksOutOfBounds() {
        DefectDrive d = Drives.formatted();
        for (int n : new int[] {0, -1, MIN}) {
            CHECKS.outOfBounds("seeks(0, " + n + ")", () -> d.seeks(0, n));
            CHECKS.outOfBounds("seeks(142, " + n + ")", () -> d.seeks(142, n));
            CHECKS.outOfBounds("seeks(143, " + n + ")", () -> d.seeks(143, n));
        }
        CHECKS.outOfBounds("seeks(0, 144)", () -> d.seeks(0, 144));
        CHECKS.outOfBounds("seeks(1, 143)", () -> d.seeks(1, 143));
        CHECKS.same("seeks(1, 142)", d.seeks(1, 142), 10);
        CHECKS.outOfBounds("seeks(142, 2)", () -> d.seeks(142, 2));
        CHECKS.outOfBounds("seeks(143, 1)", () -> d.seeks(143, 1));
        CHECKS.outOfBounds("seeks(-1, 1)", () -> d.seeks(-1, 1));
        CHECKS.outOfBounds("seeks(-1, 2)", () -> d.seeks(-1, 2));
        CHECKS.outOfBounds("seeks without lists", () -> new DefectDrive().seeks(0, 1));
    }

    private static void seeksWrapAround() {
        DefectDrive d = Drives.formatted();
        for (int from : new int[] {1, 142, MAX, MAX - 142, MIN, -MAX}) {
            CHECKS.outOfBounds("seeks(" + from + ", most)", () -> d.seeks(from, MAX));
            CHECKS.outOfBounds("seeks(" + from + ", least)", () -> d.seeks(from, MIN));
        }
        for (int from : new int[] {MAX, MIN}) {
            CHECKS.outOfBounds("seeks(" + from + ", 1)", () -> d.seeks(from, 1));
        }
    }

    // Promise 16: "IndexOutOfBounds: there is no such sector."

    private static void stateOutOfBounds() {
        DefectDrive d = new DefectDrive();
        d.spoil(16, true);
        d.spoil(191, false);
        CHECKS.same("state(0)", d.state(0), DefectDrive.GOOD);
        CHECKS.same("state(15)", d.state(15), DefectDrive.GOOD);
        CHECKS.same("state(16)", d.state(16), DefectDrive.WEAK);
        CHECKS.same("state(17)", d.state(17), DefectDrive.GOOD);
        CHECKS.same("state(191)", d.state(191), DefectDrive.BAD);
        for (int sector : new int[] {-1, 192, MIN, MAX}) {
            CHECKS.outOfBounds("state(" + sector + ")", () -> d.state(sector));
        }
    }

    // Promise 17: what = 0 to 7

    private static void toldAll() {
        DefectDrive d = Drives.withPairs(3, 2);
        CHECKS.told("told", d, 140, 3, 2, 3, 176 + 3 + 2 * 4, 0, 3, -1);
        d.cutAfter(1);
        CHECKS.told("told, one write is left", d, 140, 3, 2, 3, 187, 0, 3, 1);
        d.write(0, 0, 1);
        CHECKS.told("told, none is left", d, 140, 3, 2, 3, 188, 0, 3, 0);
        d.write(0, 0, 1);
        CHECKS.told("told, off", d, 140, 3, 2, 3, 188, 1, 3, 0);
        d.start();
        CHECKS.told("told, on again", d, 140, 3, 2, 3, 188, 0, 3, -1);
    }

    // Promise 17: "NONE for another what"

    private static void toldNone() {
        for (DefectDrive d : new DefectDrive[] {new DefectDrive(), Drives.withPairs(3, 2)}) {
            for (int what : new int[] {-1, 8, 9, MIN, MAX}) {
                CHECKS.same("told(" + what + ")", d.told(what), DefectDrive.NONE);
            }
        }
    }
}
