/** One method a promise: ordinary inputs, the edges that the document names, wrong inputs. */
public final class PromisesTest {
    private static final int MIN = Integer.MIN_VALUE;
    private static final int MAX = Integer.MAX_VALUE;
    private static final int[] NOT_SECTORS = {-1, 192, MIN, MAX};
    private static final Checks CHECKS = new Checks();

    public static void main(String[] args) {
        newObject();
        factory();
        factoryExceptionsInOrder();
        format();
        formatCollectsDefects();
        formatWithTooManyEntries();
        formatWithoutPower();
        write();
        writeWithoutPower();
        read();
        readExceptionsInOrder();
        reassign();
        reassignCarriesLostWords();
        reassignChoosesNearest();
        reassignFull();
        reassignWithoutPower();
        reassignAfterCuts();
        spoil();
        cutAfter();
        start();
        physical();
        logical();
        spares();
        grown();
        primary();
        seeks();
        state();
        told();
        CHECKS.end();
    }

    // Promise 1

    private static void newObject() {
        DefectDrive d = new DefectDrive();
        CHECKS.told("new", d, 0, 0, 0, 0, 0, 0, 0, -1);
        for (int sector = 0; sector < 192; sector++) {
            CHECKS.same("new: state(" + sector + ")", d.state(sector), DefectDrive.GOOD);
            CHECKS.same("new: logical(" + sector + ")", d.logical(sector), DefectDrive.NONE);
        }
        for (int cylinder = 1; cylinder < 12; cylinder++) {
            CHECKS.same("new: spares(" + cylinder + ")", d.spares(cylinder), 3);
        }
        CHECKS.outOfBounds("new: write", () -> d.write(0, 0, 1));
        CHECKS.outOfBounds("new: read", () -> d.read(0, 0));
        CHECKS.outOfBounds("new: reassign", () -> d.reassign(0));
        CHECKS.outOfBounds("new: physical", () -> d.physical(0));
        CHECKS.outOfBounds("new: seeks", () -> d.seeks(0, 1));
        CHECKS.outOfBounds("new: grown", () -> d.grown(0, false));
        CHECKS.outOfBounds("new: primary", () -> d.primary(0));
    }

    // Promise 2

    private static void factory() {
        DefectDrive d = new DefectDrive();
        CHECKS.same("factory: first", d.factory(191), 1);
        CHECKS.same("factory: second", d.factory(16), 2);
        CHECKS.same("factory: a spare one", d.factory(31), 3);
        CHECKS.same("factory: told(6)", d.told(6), 3);
        CHECKS.same("factory: not primary before format", d.told(3), 0);
        CHECKS.same("factory: state stays", d.state(16), DefectDrive.GOOD);
        CHECKS.same("factory: spares stay before format", d.spares(1), 3);
        for (int sector : NOT_SECTORS) {
            CHECKS.outOfBounds("factory: " + sector, () -> d.factory(sector));
        }
        CHECKS.illegalArgument("factory: cylinder 0", () -> d.factory(0));
        CHECKS.illegalArgument("factory: end of cylinder 0", () -> d.factory(15));
        CHECKS.illegalArgument("factory: twice", () -> d.factory(16));
        CHECKS.same("factory: throws change nothing", d.told(6), 3);
        d.cutAfter(0);
        CHECKS.same("factory: format is cut", d.format(), DefectDrive.OFF);
        CHECKS.same("factory: after a format that was cut", d.factory(17), 4);
        d.start();
        CHECKS.same("factory: format", d.format(), 141);
        CHECKS.illegalState("factory: after format", () -> d.factory(18));
        CHECKS.same("factory: still", d.told(6), 4);
    }

    private static void factoryExceptionsInOrder() {
        DefectDrive d = new DefectDrive();
        d.factory(20);
        d.format();
        CHECKS.outOfBounds("factory order: no sector", () -> d.factory(192));
        CHECKS.illegalArgument("factory order: cylinder 0", () -> d.factory(3));
        CHECKS.illegalArgument("factory order: one already", () -> d.factory(20));
        CHECKS.illegalState("factory order: formatted", () -> d.factory(21));
        d.spoil(16, true);
        d.cutAfter(0);
        CHECKS.same("factory order: later format is cut", d.format(), DefectDrive.OFF);
        CHECKS.illegalState("factory order: formatted before a cut", () -> d.factory(21));
        d.start();
        CHECKS.illegalState("factory order: formatted before a start", () -> d.factory(21));
    }

    // Promise 3

    private static void format() {
        DefectDrive d = new DefectDrive();
        CHECKS.same("format: capacity", d.format(), 143);
        CHECKS.told("format", d, 143, 1, 0, 0, 178, 0, 0, -1);
        d.write(5, 0, 50);
        d.write(5, 1, 51);
        d.spoil(25, true);
        CHECKS.same("format: again", d.format(), 142);
        CHECKS.told("format again", d, 142, 2, 0, 1, 180 + 175 + 3, 0, 0, -1);
        for (int logical = 0; logical < 142; logical++) {
            CHECKS.same("format: word 0 of " + logical, d.read(logical, 0), 0);
            CHECKS.same("format: word 1 of " + logical, d.read(logical, 1), 0);
        }
        lostWordsEnd();
    }

    private static void lostWordsEnd() {
        DefectDrive d = new DefectDrive();
        d.format();
        d.spoil(16, false);
        d.reassign(0);
        CHECKS.noSuchElement("format: lost before", () -> d.read(0, 0));
        d.format();
        for (int logical = 0; logical < 142; logical++) {
            CHECKS.same("format: not lost " + logical, d.read(logical, 0) | d.read(logical, 1), 0);
        }
        d.spoil(17, false);
        d.reassign(0);
        CHECKS.same("format: the spare is free again", d.physical(0), 29);
    }

    private static void formatCollectsDefects() {
        DefectDrive d = new DefectDrive();
        d.factory(100);
        d.factory(29);
        d.factory(20);
        d.spoil(20, false);
        d.spoil(190, true);
        CHECKS.same("format collects: capacity", d.format(), 141);
        CHECKS.primaries("formatCollectsDefects", d, 20, 29, 100, 190);
        CHECKS.same("format collects: writes", d.told(4), 174 + 3);
        d.spoil(16, true);
        CHECKS.same("format collects: reassign", d.reassign(0), DefectDrive.DONE);
        CHECKS.same("format collects: nearest spare", d.physical(0), 30);
        d.spoil(30, false);
        d.spoil(60, true);
        CHECKS.same("format collects: capacity again", d.format(), 139);
        CHECKS.primaries("formatCollectsDefects", d, 16, 20, 29, 30, 60, 100, 190);
        CHECKS.told("format collects", d, 139, 3, 0, 7);
        CHECKS.outOfBounds("format collects: no pairs", () -> d.grown(0, false));
    }

    private static void formatWithTooManyEntries() {
        DefectDrive d = new DefectDrive();
        for (int sector = 16; sector < 64; sector++) {
            d.factory(sector);
        }
        d.spoil(16, false);
        CHECKS.same("48 entries: capacity", d.format(), 143 - 39);
        CHECKS.told("48 entries", d, 104, 1, 0, 48, 175 + 1 + 6 + 1, 0, 48, -1);
        d.write(0, 0, 9);
        d.spoil(80, true);
        CHECKS.illegalState("49 entries", d::format);
        CHECKS.told("49 entries", d, 104, 1, 0, 48, 184, 0, 48, -1);
        CHECKS.same("49 entries: the word stays", d.read(0, 0), 9);
        CHECKS.same("49 entries: no pair has room", d.reassign(13), DefectDrive.FULL);
        d.cutAfter(0);
        d.write(0, 0, 10);
        CHECKS.illegalState("49 entries: before OFF", d::format);

        DefectDrive f = new DefectDrive();
        for (int sector = 16; sector < 192; sector++) {
            f.factory(sector);
        }
        CHECKS.same("all are factory defects", f.told(6), 176);
        CHECKS.illegalState("176 entries", f::format);
        CHECKS.told("176 entries", f, 0, 0, 0, 0, 0, 0, 176, -1);
    }

    private static void formatWithoutPower() {
        for (int writes = 0; writes <= 180; writes++) {
            DefectDrive d = new DefectDrive();
            for (int k = 0; k < 9; k++) {
                d.factory(16 + k);
            }
            d.cutAfter(writes);
            String what = "format with power for " + writes;
            boolean enough = writes == 180;
            CHECKS.same(what, d.format(), enough ? 134 : DefectDrive.OFF);
            CHECKS.told(what, d, enough ? 134 : 0, enough ? 1 : 0, 0, enough ? 9 : 0,
                    writes, enough ? 0 : 1, 9, 0);
            CHECKS.same(what + ": start", d.start(), enough ? 1 : 0);
            CHECKS.same(what + ": capacity then", d.told(0), enough ? 134 : 0);
        }
        DefectDrive d = new DefectDrive();
        d.format();
        d.write(0, 0, 1);
        d.write(2, 0, 3);
        d.cutAfter(2);
        CHECKS.same("format is cut", d.format(), DefectDrive.OFF);
        d.start();
        CHECKS.same("format is cut: done before stays", d.read(0, 0), 0);
        CHECKS.same("format is cut: not reached", d.read(2, 0), 3);
        d.cutAfter(177);
        CHECKS.same("format is cut before the mark", d.format(), DefectDrive.OFF);
        d.cutAfter(500);
        CHECKS.same("format when it is off", d.format(), DefectDrive.OFF);
        CHECKS.told("format when it is off", d, 143, 1, 0, 0, 178 + 2 + 2 + 177, 1, 0, 500);
        CHECKS.same("format is cut before the mark: start", d.start(), 1);
        CHECKS.same("format: version again", d.format(), 143);
        CHECKS.same("format: version one more than that in force", d.told(1), 2);
    }

    // Promise 4

    private static void write() {
        DefectDrive d = new DefectDrive();
        d.format();
        CHECKS.same("write: first", d.write(0, 0, MIN), DefectDrive.DONE);
        CHECKS.same("write: other word", d.write(0, 1, MAX), DefectDrive.DONE);
        CHECKS.same("write: last", d.write(142, 1, -7), DefectDrive.DONE);
        CHECKS.same("write: read", d.read(0, 0), MIN);
        CHECKS.same("write: read other", d.read(0, 1), MAX);
        CHECKS.same("write: read last", d.read(142, 1), -7);
        CHECKS.same("write: its other word stays", d.read(142, 0), 0);
        CHECKS.same("write: counted", d.told(4), 181);
        d.spoil(16, true);
        CHECKS.same("write: weak", d.write(0, 0, 3), DefectDrive.DAMAGED);
        CHECKS.same("write: nothing done", d.read(0, 0), MIN);
        d.spoil(17, false);
        CHECKS.same("write: bad", d.write(1, 0, 3), DefectDrive.DAMAGED);
        CHECKS.same("write: damaged ones are not counted", d.told(4), 181);
        CHECKS.outOfBounds("write: below", () -> d.write(-1, 0, 0));
        CHECKS.outOfBounds("write: above", () -> d.write(143, 0, 0));
        CHECKS.outOfBounds("write: far below", () -> d.write(MIN, 0, 0));
        CHECKS.outOfBounds("write: far above", () -> d.write(MAX, 0, 0));
        CHECKS.outOfBounds("write: word below", () -> d.write(0, -1, 0));
        CHECKS.outOfBounds("write: word above", () -> d.write(0, 2, 0));
        CHECKS.outOfBounds("write: word of a damaged one", () -> d.write(1, 2, 0));
    }

    private static void writeWithoutPower() {
        DefectDrive d = new DefectDrive();
        d.format();
        d.spoil(17, true);
        d.cutAfter(1);
        CHECKS.same("write: the last one", d.write(0, 0, 4), DefectDrive.DONE);
        CHECKS.same("write: power is on still", d.told(5), 0);
        CHECKS.same("write: damaged needs no power", d.write(1, 0, 4), DefectDrive.DAMAGED);
        CHECKS.same("write: power is on after damaged", d.told(5), 0);
        CHECKS.same("write: cut", d.write(0, 0, 5), DefectDrive.OFF);
        CHECKS.same("write: power is off", d.told(5), 1);
        CHECKS.same("write: damaged when it is off", d.write(1, 0, 4), DefectDrive.OFF);
        CHECKS.outOfBounds("write: exceptions before OFF", () -> d.write(143, 0, 0));
        CHECKS.outOfBounds("write: word exceptions before OFF", () -> d.write(0, 2, 0));
        d.cutAfter(-1);
        CHECKS.same("write: cutAfter brings no power", d.write(0, 0, 5), DefectDrive.OFF);
        d.start();
        CHECKS.same("write: not done", d.read(0, 0), 4);
    }

    // Promise 5

    private static void read() {
        DefectDrive d = new DefectDrive();
        d.format();
        d.write(3, 0, 30);
        d.write(3, 1, 31);
        CHECKS.same("read: word 0", d.read(3, 0), 30);
        CHECKS.same("read: word 1", d.read(3, 1), 31);
        d.spoil(19, true);
        CHECKS.same("read: weak", d.read(3, 1), 31);
        d.spoil(19, false);
        CHECKS.illegalState("read: bad", () -> d.read(3, 1));
        d.reassign(3);
        CHECKS.noSuchElement("read: lost word 0", () -> d.read(3, 0));
        CHECKS.noSuchElement("read: lost word 1", () -> d.read(3, 1));
        d.write(3, 0, 32);
        CHECKS.same("read: no more lost", d.read(3, 0), 32);
        CHECKS.noSuchElement("read: the other is lost still", () -> d.read(3, 1));
        CHECKS.same("read: last", d.read(142, 1), 0);
        for (int logical : new int[] {-1, 143, MIN, MAX}) {
            CHECKS.outOfBounds("read: " + logical, () -> d.read(logical, 0));
        }
        for (int i : new int[] {-1, 2, MIN, MAX}) {
            CHECKS.outOfBounds("read: word " + i, () -> d.read(0, i));
        }
        CHECKS.same("read: is no sector write", d.told(4), 178 + 2 + 4 + 1);
    }

    private static void readExceptionsInOrder() {
        DefectDrive d = new DefectDrive();
        d.format();
        d.spoil(16, false);
        d.reassign(0);
        d.spoil(29, false);
        CHECKS.illegalState("read order: bad before lost", () -> d.read(0, 0));
        d.cutAfter(0);
        d.write(1, 0, 0);
        CHECKS.unsupported("read order: off before bad", () -> d.read(0, 0));
        CHECKS.unsupported("read order: off", () -> d.read(1, 0));
        CHECKS.outOfBounds("read order: bounds before off", () -> d.read(143, 0));
        CHECKS.outOfBounds("read order: word before off", () -> d.read(0, 2));
    }

    // Promise 6

    private static void reassign() {
        DefectDrive d = new DefectDrive();
        d.format();
        d.write(2, 0, 20);
        d.write(2, 1, 21);
        CHECKS.same("reassign: good", d.reassign(2), DefectDrive.HEALTHY);
        CHECKS.told("reassign: good", d, 143, 1, 0, 0, 180);
        d.spoil(18, true);
        CHECKS.same("reassign: weak", d.reassign(2), DefectDrive.DONE);
        CHECKS.told("reassign: weak", d, 143, 2, 1, 0, 184, 0, 0, -1);
        CHECKS.same("reassign: place", d.physical(2), 29);
        CHECKS.same("reassign: word 0 goes along", d.read(2, 0), 20);
        CHECKS.same("reassign: word 1 goes along", d.read(2, 1), 21);
        CHECKS.same("reassign: the new place is good", d.reassign(2), DefectDrive.HEALTHY);
        d.spoil(16, false);
        CHECKS.same("reassign: bad", d.reassign(0), DefectDrive.DAMAGED);
        CHECKS.same("reassign: next place", d.physical(0), 30);
        CHECKS.noSuchElement("reassign: lost", () -> d.read(0, 0));
        d.spoil(29, true);
        CHECKS.same("reassign: again", d.reassign(2), DefectDrive.DONE);
        CHECKS.told("reassign: again", d, 143, 4, 2, 0, 192);
        CHECKS.pair("reassign", d, 0, 18, 31);
        CHECKS.pair("reassign", d, 1, 16, 30);
        CHECKS.same("reassign: words go along again", d.read(2, 1), 21);
        for (int logical : new int[] {-1, 143, MIN, MAX}) {
            CHECKS.outOfBounds("reassign: " + logical, () -> d.reassign(logical));
        }
    }

    private static void reassignCarriesLostWords() {
        DefectDrive d = new DefectDrive();
        d.format();
        d.spoil(16, false);
        d.reassign(0);
        d.write(0, 1, 11);
        d.spoil(29, true);
        CHECKS.same("lost words: weak is DONE", d.reassign(0), DefectDrive.DONE);
        CHECKS.noSuchElement("lost words: one stays lost", () -> d.read(0, 0));
        CHECKS.same("lost words: the other is there", d.read(0, 1), 11);

        d.spoil(17, false);
        d.reassign(1);
        d.write(1, 0, 12);
        d.spoil(d.physical(1), true);
        CHECKS.same("lost words: weak is DONE again", d.reassign(1), DefectDrive.DONE);
        CHECKS.same("lost words: the first is there", d.read(1, 0), 12);
        CHECKS.noSuchElement("lost words: the second stays lost", () -> d.read(1, 1));
    }

    private static void reassignChoosesNearest() {
        DefectDrive d = new DefectDrive();
        d.factory(93);
        d.format();
        Drives.spoilSpares(d, 4);
        d.spoil(64, true);
        d.reassign(39);
        CHECKS.same("nearest: the lower of two cylinders", d.physical(39), 61);
        d.spoil(62, true);
        d.spoil(63, true);
        d.spoil(65, true);
        d.reassign(40);
        CHECKS.same("nearest: then the upper one, behind its primary one", d.physical(40), 94);
        d.spoil(61, true);
        d.reassign(39);
        CHECKS.same("nearest: to the place, not to the own sector", d.physical(39), 45);
        d.spoil(94, true);
        d.reassign(40);
        CHECKS.same("nearest: in the place's cylinder", d.physical(40), 95);
        d.spoil(176, true);
        d.reassign(130);
        CHECKS.same("nearest: last cylinder", d.physical(130), 189);
    }

    private static void reassignFull() {
        DefectDrive d = new DefectDrive();
        d.format();
        for (int cylinder = 1; cylinder < 12; cylinder++) {
            Drives.spoilSpares(d, cylinder);
        }
        d.spoil(16, false);
        CHECKS.same("no spare", d.reassign(0), DefectDrive.FULL);
        CHECKS.told("no spare", d, 143, 1, 0, 0, 178);
        fullOfPairs();
        fullOfEntries();
    }

    private static void fullOfPairs() {
        DefectDrive d = new DefectDrive();
        d.format();
        for (int logical = 0; logical < 20; logical++) {
            d.spoil(d.physical(logical), true);
            CHECKS.same("pair " + logical, d.reassign(logical), DefectDrive.DONE);
        }
        d.spoil(d.physical(20), true);
        CHECKS.same("pair 21", d.reassign(20), DefectDrive.FULL);
        CHECKS.same("pair 21: pairs", d.told(2), 20);
        d.spoil(d.physical(7), true);
        CHECKS.same("another spare for a pair", d.reassign(7), DefectDrive.DONE);
        CHECKS.same("another spare: pairs", d.told(2), 20);
        CHECKS.same("another spare: version", d.told(1), 22);
    }

    private static void fullOfEntries() {
        DefectDrive d = new DefectDrive();
        for (int k = 0; k < 47; k++) {
            d.factory(16 + k);
        }
        d.format();
        d.spoil(d.physical(0), true);
        CHECKS.same("entry 48", d.reassign(0), DefectDrive.DONE);
        CHECKS.told("entry 48", d, 104, 2, 1, 47, 176 + 1 + 6 + 1 + 1 + 1 + 6 + 1);
        d.spoil(d.physical(1), true);
        CHECKS.same("entry 49", d.reassign(1), DefectDrive.FULL);
        d.spoil(d.physical(0), true);
        CHECKS.same("48 entries still", d.reassign(0), DefectDrive.DONE);
        CHECKS.told("48 entries still", d, 104, 3, 1, 47);
    }

    private static void reassignWithoutPower() {
        for (int writes = 0; writes <= 5; writes++) {
            DefectDrive d = new DefectDrive();
            for (int k = 0; k < 8; k++) {
                d.factory(16 + k);
            }
            d.format();
            d.write(0, 0, 77);
            d.spoil(24, true);
            d.cutAfter(writes);
            String what = "reassign with power for " + writes;
            boolean enough = writes == 5;
            CHECKS.same(what, d.reassign(0), enough ? DefectDrive.DONE : DefectDrive.OFF);
            CHECKS.told(what, d, 135, enough ? 2 : 1, enough ? 1 : 0, 8, 180 + writes, enough ? 0 : 1, 8, 0);
            CHECKS.same(what + ": place", d.physical(0), enough ? 29 : 24);
            CHECKS.same(what + ": start", d.start(), enough ? 2 : 1);
            CHECKS.same(what + ": place then", d.physical(0), enough ? 29 : 24);
            CHECKS.same(what + ": word then", d.read(0, 0), 77);
        }
        DefectDrive d = new DefectDrive();
        d.format();
        d.cutAfter(0);
        CHECKS.same("reassign: healthy needs no power", d.reassign(0), DefectDrive.HEALTHY);
        CHECKS.same("reassign: power is on still", d.told(5), 0);
        for (int cylinder = 1; cylinder < 12; cylinder++) {
            Drives.spoilSpares(d, cylinder);
        }
        d.spoil(16, true);
        CHECKS.same("reassign: full needs no power", d.reassign(0), DefectDrive.FULL);
        CHECKS.same("reassign: power is on after full", d.told(5), 0);
        d.write(1, 0, 1);
        CHECKS.same("reassign: off before healthy", d.reassign(1), DefectDrive.OFF);
        CHECKS.same("reassign: off before full", d.reassign(0), DefectDrive.OFF);
        CHECKS.outOfBounds("reassign: exceptions before OFF", () -> d.reassign(143));
    }

    /** What a cut call had wanted to write must not come up in a later one. */
    private static void reassignAfterCuts() {
        DefectDrive d = new DefectDrive();
        d.factory(40);
        d.format();
        d.spoil(16, true);
        d.cutAfter(3);
        CHECKS.same("after cuts: reassign is cut", d.reassign(0), DefectDrive.OFF);
        d.start();
        d.spoil(50, true);
        d.cutAfter(176);
        CHECKS.same("after cuts: format is cut", d.format(), DefectDrive.OFF);
        d.start();
        d.spoil(32, true);
        CHECKS.same("after cuts: another one", d.reassign(13), DefectDrive.DONE);
        CHECKS.told("after cuts", d, 142, 2, 1, 1);
        CHECKS.pair("reassignAfterCuts", d, 0, 32, 45);
        CHECKS.same("after cuts: primary", d.primary(0), 40);
        CHECKS.same("after cuts: the first one", d.reassign(0), DefectDrive.DONE);
        CHECKS.pair("reassignAfterCuts", d, 0, 32, 45);
        CHECKS.pair("reassignAfterCuts", d, 1, 16, 29);
    }

    // Promise 7

    private static void spoil() {
        DefectDrive d = new DefectDrive();
        CHECKS.same("spoil: good to weak", d.spoil(16, true), DefectDrive.GOOD);
        CHECKS.same("spoil: is weak", d.state(16), DefectDrive.WEAK);
        CHECKS.same("spoil: weak to weak", d.spoil(16, true), DefectDrive.WEAK);
        CHECKS.same("spoil: stays weak", d.state(16), DefectDrive.WEAK);
        CHECKS.same("spoil: weak to bad", d.spoil(16, false), DefectDrive.WEAK);
        CHECKS.same("spoil: is bad", d.state(16), DefectDrive.BAD);
        CHECKS.same("spoil: bad to weak", d.spoil(16, true), DefectDrive.BAD);
        CHECKS.same("spoil: stays bad", d.state(16), DefectDrive.BAD);
        CHECKS.same("spoil: bad to bad", d.spoil(16, false), DefectDrive.BAD);
        CHECKS.same("spoil: good to bad", d.spoil(191, false), DefectDrive.GOOD);
        CHECKS.same("spoil: last is bad", d.state(191), DefectDrive.BAD);
        for (int sector : NOT_SECTORS) {
            CHECKS.outOfBounds("spoil: " + sector, () -> d.spoil(sector, true));
        }
        CHECKS.illegalArgument("spoil: cylinder 0", () -> d.spoil(0, true));
        CHECKS.illegalArgument("spoil: end of cylinder 0", () -> d.spoil(15, false));
        CHECKS.same("spoil: cylinder 0 is good", d.state(15), DefectDrive.GOOD);
        d.cutAfter(0);
        d.format();
        CHECKS.same("spoil: without power", d.spoil(20, true), DefectDrive.GOOD);
        CHECKS.same("spoil: without power is weak", d.state(20), DefectDrive.WEAK);
    }

    // Promise 8

    private static void cutAfter() {
        DefectDrive d = new DefectDrive();
        d.format();
        CHECKS.same("cutAfter: 2", d.cutAfter(2), 2);
        CHECKS.same("cutAfter: first write", d.write(0, 0, 1), DefectDrive.DONE);
        CHECKS.same("cutAfter: one left", d.told(7), 1);
        CHECKS.illegalArgument("cutAfter: -2", () -> d.cutAfter(-2));
        CHECKS.illegalArgument("cutAfter: far below", () -> d.cutAfter(MIN));
        CHECKS.same("cutAfter: throws change nothing", d.told(7), 1);
        CHECKS.same("cutAfter: second write", d.write(0, 0, 2), DefectDrive.DONE);
        CHECKS.same("cutAfter: none left", d.told(7), 0);
        CHECKS.same("cutAfter: -1", d.cutAfter(-1), -1);
        CHECKS.same("cutAfter: for ever", d.write(0, 0, 3), DefectDrive.DONE);
        CHECKS.same("cutAfter: for ever stays", d.told(7), -1);
        CHECKS.same("cutAfter: many", d.cutAfter(MAX), MAX);
        CHECKS.same("cutAfter: many are left", d.told(7), MAX);
        CHECKS.same("cutAfter: 0", d.cutAfter(0), 0);
        CHECKS.same("cutAfter: on until it is wanted", d.told(5), 0);
        CHECKS.same("cutAfter: cut", d.write(0, 0, 4), DefectDrive.OFF);
        CHECKS.same("cutAfter: when off", d.cutAfter(5), 5);
        CHECKS.told("cutAfter: when off", d, 143, 1, 0, 0, 181, 1, 0, 5);
        CHECKS.same("cutAfter: off still", d.write(0, 0, 4), DefectDrive.OFF);
        CHECKS.same("cutAfter: none is taken", d.told(7), 5);
    }

    // Promise 9

    private static void start() {
        DefectDrive d = new DefectDrive();
        CHECKS.same("start: no lists", d.start(), 0);
        d.format();
        d.write(0, 0, 8);
        d.cutAfter(3);
        CHECKS.same("start: version 1", d.start(), 1);
        CHECKS.told("start: lasts for ever", d, 143, 1, 0, 0, 179, 0, 0, -1);
        CHECKS.same("start: words stay", d.read(0, 0), 8);
        for (int version = 2; version <= 6; version++) {
            d.spoil(d.physical(0), true);
            d.cutAfter(3);
            CHECKS.same("start: cut before version " + version, d.reassign(0), DefectDrive.OFF);
            CHECKS.same("start: version before " + version, d.start(), version - 1);
            CHECKS.same("start: pairs before " + version, d.told(2), version > 2 ? 1 : 0);
            CHECKS.same("start: reassign " + version, d.reassign(0), DefectDrive.DONE);
            int place = d.physical(0);
            CHECKS.same("start: version " + version, d.start(), version);
            CHECKS.same("start: place of " + version, d.physical(0), place);
            CHECKS.same("start: word of " + version, d.read(0, 0), 8);
        }
    }

    // Promise 10

    private static void physical() {
        DefectDrive d = new DefectDrive();
        d.factory(16);
        d.factory(44);
        d.format();
        CHECKS.same("physical: first", d.physical(0), 17);
        CHECKS.same("physical: last of cylinder 1", d.physical(11), 28);
        CHECKS.same("physical: first of cylinder 2", d.physical(12), 32);
        CHECKS.same("physical: last of cylinder 2", d.physical(23), 43);
        CHECKS.same("physical: first of cylinder 3", d.physical(24), 48);
        CHECKS.same("physical: last", d.physical(140), 188);
        d.spoil(17, true);
        d.reassign(0);
        CHECKS.same("physical: spare", d.physical(0), 29);
        d.cutAfter(0);
        d.write(0, 0, 0);
        CHECKS.same("physical: without power", d.physical(0), 29);
        for (int logical : new int[] {-1, 141, MIN, MAX}) {
            CHECKS.outOfBounds("physical: " + logical, () -> d.physical(logical));
        }
    }

    // Promise 11

    private static void logical() {
        DefectDrive d = new DefectDrive();
        d.factory(16);
        d.format();
        CHECKS.same("logical: primary", d.logical(16), DefectDrive.NONE);
        CHECKS.same("logical: first", d.logical(17), 0);
        CHECKS.same("logical: spare", d.logical(29), DefectDrive.NONE);
        CHECKS.same("logical: last", d.logical(188), 141);
        CHECKS.same("logical: last sector", d.logical(191), DefectDrive.NONE);
        CHECKS.same("logical: cylinder 0", d.logical(0), DefectDrive.NONE);
        for (int k = 0; k < 142; k++) {
            CHECKS.same("logical: of physical " + k, d.logical(d.physical(k)), k);
        }
        d.spoil(17, true);
        CHECKS.same("logical: weak", d.logical(17), 0);
        d.reassign(0);
        CHECKS.same("logical: moved away", d.logical(17), DefectDrive.NONE);
        CHECKS.same("logical: moved to", d.logical(29), 0);
        d.spoil(29, false);
        d.reassign(0);
        CHECKS.same("logical: moved away again", d.logical(29), DefectDrive.NONE);
        CHECKS.same("logical: not back", d.logical(17), DefectDrive.NONE);
        CHECKS.same("logical: moved to another", d.logical(30), 0);
        for (int sector : NOT_SECTORS) {
            CHECKS.outOfBounds("logical: " + sector, () -> d.logical(sector));
        }
    }

    // Promise 12

    private static void spares() {
        DefectDrive d = new DefectDrive();
        d.factory(31);
        CHECKS.same("spares: no lists", d.spares(1), 3);
        d.format();
        CHECKS.same("spares: without primary", d.spares(1), 2);
        CHECKS.same("spares: last cylinder", d.spares(11), 3);
        d.spoil(16, true);
        CHECKS.same("spares: others do not count", d.spares(1), 2);
        d.reassign(0);
        CHECKS.same("spares: one stands", d.spares(1), 1);
        d.spoil(30, true);
        CHECKS.same("spares: one is weak", d.spares(1), 0);
        d.spoil(189, false);
        CHECKS.same("spares: one is bad", d.spares(11), 2);
        for (int cylinder : new int[] {-1, 0, 12, MIN, MAX}) {
            CHECKS.outOfBounds("spares: " + cylinder, () -> d.spares(cylinder));
        }
    }

    // Promise 13

    private static void grown() {
        DefectDrive d = new DefectDrive();
        d.factory(17);
        d.format();
        d.spoil(100, true);
        d.reassign(d.logical(100));
        d.spoil(16, true);
        d.reassign(0);
        CHECKS.pair("grown", d, 0, 100, 109);
        CHECKS.pair("grown", d, 1, 16, 29);
        d.spoil(109, true);
        d.reassign(d.logical(109));
        CHECKS.pair("grown", d, 0, 100, 110);
        CHECKS.pair("grown", d, 1, 16, 29);
        for (int k : new int[] {-1, 2, MIN, MAX}) {
            CHECKS.outOfBounds("grown: " + k, () -> d.grown(k, true));
            CHECKS.outOfBounds("grown: " + k, () -> d.grown(k, false));
        }
        d.cutAfter(2);
        d.spoil(18, true);
        d.reassign(d.logical(18));
        CHECKS.same("grown: cut", d.told(2), 2);
        CHECKS.pair("grown", d, 0, 100, 110);
        d.start();
        CHECKS.pair("grown", d, 1, 16, 29);
    }

    // Promise 14

    private static void primary() {
        DefectDrive d = new DefectDrive();
        d.factory(150);
        d.factory(30);
        d.format();
        CHECKS.primaries("primary", d, 30, 150);
        d.spoil(16, true);
        d.reassign(0);
        CHECKS.primaries("primary", d, 30, 150);
        for (int k : new int[] {-1, 2, MIN, MAX}) {
            CHECKS.outOfBounds("primary: " + k, () -> d.primary(k));
        }
        d.cutAfter(177);
        CHECKS.same("primary: format is cut", d.format(), DefectDrive.OFF);
        CHECKS.primaries("primary", d, 30, 150);
        d.start();
        CHECKS.primaries("primary", d, 30, 150);
        d.format();
        CHECKS.primaries("primary", d, 16, 30, 150);
    }

    // Promise 15

    private static void seeks() {
        DefectDrive d = new DefectDrive();
        d.format();
        CHECKS.same("seeks: one", d.seeks(0, 1), 0);
        CHECKS.same("seeks: a cylinder", d.seeks(0, 13), 0);
        CHECKS.same("seeks: and one more", d.seeks(0, 14), 1);
        CHECKS.same("seeks: at the border", d.seeks(12, 2), 1);
        CHECKS.same("seeks: all", d.seeks(0, 143), 10);
        CHECKS.same("seeks: last", d.seeks(142, 1), 0);
        d.spoil(20, true);
        d.reassign(4);
        CHECKS.same("seeks: spare in the same cylinder", d.seeks(0, 13), 0);
        Drives.spoilSpares(d, 1);
        d.reassign(4);
        CHECKS.same("seeks: to another cylinder and back", d.seeks(0, 13), 2);
        CHECKS.same("seeks: from there", d.seeks(4, 2), 1);
        CHECKS.same("seeks: up to there", d.seeks(0, 5), 1);
        CHECKS.outOfBounds("seeks: n is 0", () -> d.seeks(0, 0));
        CHECKS.outOfBounds("seeks: n is below", () -> d.seeks(5, -1));
        CHECKS.outOfBounds("seeks: n is far below", () -> d.seeks(5, MIN));
        CHECKS.outOfBounds("seeks: too many", () -> d.seeks(0, 144));
        CHECKS.outOfBounds("seeks: too many from the last", () -> d.seeks(142, 2));
        CHECKS.outOfBounds("seeks: behind the last", () -> d.seeks(143, 1));
        CHECKS.outOfBounds("seeks: from below", () -> d.seeks(-1, 1));
        CHECKS.outOfBounds("seeks: from below, of more", () -> d.seeks(-1, 5));
        CHECKS.outOfBounds("seeks: wrap-around", () -> d.seeks(1, MAX));
        CHECKS.outOfBounds("seeks: wrap-around from", () -> d.seeks(MAX, MAX));
        CHECKS.outOfBounds("seeks: wrap-around below", () -> d.seeks(MIN, MAX));
    }

    // Promise 16

    private static void state() {
        DefectDrive d = new DefectDrive();
        d.spoil(40, true);
        d.spoil(41, false);
        CHECKS.same("state: weak", d.state(40), DefectDrive.WEAK);
        CHECKS.same("state: bad", d.state(41), DefectDrive.BAD);
        CHECKS.same("state: good", d.state(42), DefectDrive.GOOD);
        d.format();
        CHECKS.same("state: format mends nothing", d.state(40), DefectDrive.WEAK);
        d.start();
        CHECKS.same("state: start mends nothing", d.state(41), DefectDrive.BAD);
        CHECKS.same("state: first", d.state(0), DefectDrive.GOOD);
        CHECKS.same("state: last", d.state(191), DefectDrive.GOOD);
        for (int sector : NOT_SECTORS) {
            CHECKS.outOfBounds("state: " + sector, () -> d.state(sector));
        }
    }

    // Promise 17

    private static void told() {
        DefectDrive d = new DefectDrive();
        d.factory(16);
        d.format();
        d.spoil(17, true);
        d.reassign(0);
        d.cutAfter(6);
        CHECKS.told("told", d, 142, 2, 1, 1, 179 + 4, 0, 1, 6);
        for (int what : new int[] {-1, 8, MIN, MAX}) {
            CHECKS.same("told(" + what + ")", d.told(what), DefectDrive.NONE);
        }
        d.format();
        CHECKS.told("told when off", d, 142, 2, 1, 1, 179 + 4 + 6, 1, 1, 0);
        d.start();
        CHECKS.told("told after start", d, 142, 2, 1, 1, 179 + 4 + 6, 0, 1, -1);
    }
}
