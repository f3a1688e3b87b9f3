import java.util.Arrays;
import java.util.NoSuchElementException;
import java.util.function.Supplier;

/** One method for each sentence of the document's 'Terms' that names a boundary; the sentence stands above it. */
public final class TermsTest {
    private static final int MIN = Integer.MIN_VALUE;
    private static final int MAX = Integer.MAX_VALUE;
    private static final Checks CHECKS = new Checks();

    public static void main(String[] args) {
        sectors();
        cylinders();
        words();
        wordsAtFirst();
        weakAndBad();
        spareSectors();
        listsInCylinder0();
        entriesAtMost();
        entriesAtMostWithPairs();
        pairsAtMost();
        copiesTakeTurns();
        beginningTakesTheMark();
        partsOfEight();
        partsOfBothLists();
        inForce();
        logicalSectorsInOrder();
        leastCapacity();
        places();
        wholeOrNotAtAll();
        powerThatEnds();
        doneBeforeTheCutStays();
        offBehindExceptions();
        nothingIsDoneWhileOff();
        othersAnswerWhileOff();
        cylinder0IsGood();
        firstExceptionOfFactory();
        firstExceptionOfRead();
        firstExceptionOfSpoil();
        throwsChangeNothing();
        CHECKS.end();
    }

    // "SECTORS are 0 .. 191"

    private static void sectors() {
        DefectDrive d = new DefectDrive();
        for (int sector : new int[] {-1, -16, 192, MIN, MAX}) {
            CHECKS.outOfBounds("factory(" + sector + ")", () -> d.factory(sector));
            CHECKS.outOfBounds("spoil(" + sector + ")", () -> d.spoil(sector, true));
            CHECKS.outOfBounds("spoil(" + sector + ") to bad", () -> d.spoil(sector, false));
            CHECKS.outOfBounds("logical(" + sector + ")", () -> d.logical(sector));
            CHECKS.outOfBounds("state(" + sector + ")", () -> d.state(sector));
        }
        for (int sector : new int[] {0, 15, 16, 191}) {
            CHECKS.same("state(" + sector + ")", d.state(sector), DefectDrive.GOOD);
            CHECKS.same("logical(" + sector + ")", d.logical(sector), DefectDrive.NONE);
        }
        for (int sector : new int[] {16, 191}) {
            CHECKS.same("spoil(" + sector + ")", d.spoil(sector, true), DefectDrive.GOOD);
            CHECKS.same("spoiled " + sector, d.state(sector), DefectDrive.WEAK);
        }
        CHECKS.same("factory(16)", d.factory(16), 1);
        CHECKS.same("factory(191)", d.factory(191), 2);
    }

    // "sixteen in each of CYLINDERS 0 .. 11"

    private static void cylinders() {
        DefectDrive d = Drives.formatted();
        for (int cylinder = 1; cylinder < 12; cylinder++) {
            int first = (cylinder - 1) * 13;
            String what = "cylinder " + cylinder;
            CHECKS.same(what + ": first", d.physical(first), cylinder * 16);
            CHECKS.same(what + ": within it", d.seeks(first, 13), 0);
            CHECKS.same(what + ": spares", d.spares(cylinder), 3);
            if (cylinder < 11) {
                CHECKS.same(what + ": its end", d.seeks(first + 12, 2), 1);
            }
        }
        CHECKS.outOfBounds("cylinder 12", () -> d.spares(12));
        CHECKS.outOfBounds("cylinder -1", () -> d.spares(-1));
    }

    // "each has two WORDS, ints"

    private static void words() {
        DefectDrive d = Drives.formatted();
        for (int i : new int[] {-1, 2, MIN, MAX}) {
            CHECKS.outOfBounds("write of word " + i, () -> d.write(0, i, 1));
            CHECKS.outOfBounds("read of word " + i, () -> d.read(0, i));
        }
        for (int v : new int[] {MIN, -1, 0, 1, MAX}) {
            CHECKS.same("write 0 of " + v, d.write(70, 0, v), DefectDrive.DONE);
            CHECKS.same("write 1 of " + ~v, d.write(70, 1, ~v), DefectDrive.DONE);
            CHECKS.same("read 0 of " + v, d.read(70, 0), v);
            CHECKS.same("read 1 of " + ~v, d.read(70, 1), ~v);
        }
        CHECKS.same("the one before", d.read(69, 1), 0);
        CHECKS.same("the one behind", d.read(71, 0), 0);
    }

    // "perhaps LOST, at first 0 and not lost"

    private static void wordsAtFirst() {
        DefectDrive d = Drives.formatted();
        for (int logical = 0; logical < 143; logical++) {
            CHECKS.same("word 0 of " + logical, d.read(logical, 0), 0);
            CHECKS.same("word 1 of " + logical, d.read(logical, 1), 0);
        }
    }

    // "and is GOOD, WEAK (it can be read) or BAD"

    private static void weakAndBad() {
        DefectDrive d = Drives.formatted();
        d.write(0, 0, 5);
        d.spoil(16, true);
        CHECKS.same("weak can be read", d.read(0, 0), 5);
        CHECKS.same("weak can be read, other word", d.read(0, 1), 0);
        CHECKS.same("weak cannot be written", d.write(0, 0, 6), DefectDrive.DAMAGED);
        d.spoil(16, false);
        CHECKS.illegalState("bad cannot be read", () -> d.read(0, 0));
        CHECKS.illegalState("bad cannot be read, other word", () -> d.read(0, 1));
        CHECKS.same("bad cannot be written", d.write(0, 0, 6), DefectDrive.DAMAGED);
    }

    // "The last three of each of cylinders 1 .. 11 are SPARE."

    private static void spareSectors() {
        DefectDrive d = Drives.formatted();
        for (int cylinder = 1; cylinder < 12; cylinder++) {
            int first = cylinder * 16;
            CHECKS.same("the thirteenth of " + cylinder, d.logical(first + 12), cylinder * 13 - 1);
            for (int k = 13; k < 16; k++) {
                CHECKS.same("spare " + (first + k), d.logical(first + k), DefectDrive.NONE);
                d.spoil(first + k, true);
                CHECKS.same("spares without " + (first + k), d.spares(cylinder), 15 - k);
            }
        }
    }

    // "Cylinder 0 is for the LISTS"

    private static void listsInCylinder0() {
        DefectDrive d = Drives.formatted();
        for (int sector = 0; sector < 16; sector++) {
            CHECKS.same("no logical one at " + sector, d.logical(sector), DefectDrive.NONE);
        }
        CHECKS.outOfBounds("no spares in cylinder 0", () -> d.spares(0));
        Drives.spoilSpares(d, 1);
        d.spoil(16, true);
        CHECKS.same("nothing is moved to cylinder 0", d.reassign(0), DefectDrive.DONE);
        CHECKS.same("but to cylinder 2", d.physical(0), 45);

        DefectDrive full = Drives.withoutSpares();
        full.spoil(16, true);
        CHECKS.same("not even if nothing else is left", full.reassign(0), DefectDrive.FULL);
    }

    // "there are 48 at most"

    private static void entriesAtMost() {
        for (int entries = 46; entries < 51; entries++) {
            DefectDrive d = new DefectDrive();
            for (int k = 0; k < entries; k++) {
                d.factory(16 + k);
            }
            if (entries <= 48) {
                CHECKS.same(entries + " entries, 39 of them not spare", d.format(), 143 - 39);
                CHECKS.same(entries + " entries: the last one", d.primary(entries - 1), 15 + entries);
            } else {
                CHECKS.illegalState(entries + " entries", d::format);
            }
        }
    }

    private static void entriesAtMostWithPairs() {
        for (int primaries = 44; primaries < 49; primaries++) {
            DefectDrive d = Drives.withPrimaries(primaries);
            for (int logical = 0; logical < 6; logical++) {
                d.spoil(d.physical(logical), true);
                boolean room = primaries + logical < 48;
                CHECKS.same(primaries + " primary ones, pair " + logical, d.reassign(logical),
                        room ? DefectDrive.DONE : DefectDrive.FULL);
            }
            CHECKS.same(primaries + " primary ones: pairs", d.told(2), 48 - primaries);
            CHECKS.same(primaries + " primary ones: version", d.told(1), 1 + 48 - primaries);
        }
    }

    // "20 pairs at most"

    private static void pairsAtMost() {
        DefectDrive d = Drives.withPairs(0, 19);
        CHECKS.same("19 pairs", d.told(2), 19);
        d.spoil(d.physical(19), true);
        CHECKS.same("the 20th pair", d.reassign(19), DefectDrive.DONE);
        CHECKS.pair("the 20th pair", d, 19, 38, d.physical(19));
        d.spoil(d.physical(20), true);
        CHECKS.same("the 21st pair", d.reassign(20), DefectDrive.FULL);
        CHECKS.same("20 pairs", d.told(2), 20);
        CHECKS.outOfBounds("no pair 20", () -> d.grown(20, true));
    }

    // "WRITING LISTS goes to copy A, if the version is odd, else to B"

    private static void copiesTakeTurns() {
        for (int versions = 1; versions < 7; versions++) {
            for (int writes = 0; writes < 4; writes++) {
                DefectDrive d = manyVersions(versions);
                int place = d.physical(0);
                d.spoil(place, true);
                d.cutAfter(writes);
                String what = "version " + (versions + 1) + " cut after " + writes;
                CHECKS.same(what, d.reassign(0), DefectDrive.OFF);
                CHECKS.same(what + ": the other copy is there", d.start(), versions);
                CHECKS.same(what + ": the old place", d.physical(0), place);
                CHECKS.same(what + ": the old pairs", d.told(2), versions > 1 ? 1 : 0);
            }
        }
    }

    /** Each version but the first moves logical sector 0 again. */
    private static DefectDrive manyVersions(int versions) {
        DefectDrive d = Drives.formatted();
        for (int version = 2; version <= versions; version++) {
            d.spoil(d.physical(0), true);
            d.reassign(0);
        }
        return d;
    }

    // "first that copy has no closing mark any more, and the version; ..; at last the closing mark"

    private static void beginningTakesTheMark() {
        DefectDrive d = manyVersions(2);
        d.spoil(d.physical(0), true);
        d.cutAfter(2);
        CHECKS.same("cut behind the beginning of version 3", d.reassign(0), DefectDrive.OFF);
        CHECKS.same("version 3 is begun", d.told(4), 178 + 4 + 2);
        CHECKS.same("no mark of version 1 stands behind version 3", d.start(), 2);
        d.cutAfter(3);
        CHECKS.same("cut before the mark", d.reassign(0), DefectDrive.OFF);
        CHECKS.same("without its mark version 3 is not there", d.start(), 2);
        d.cutAfter(4);
        CHECKS.same("cut behind the mark", d.reassign(0), DefectDrive.DONE);
        CHECKS.same("with its mark version 3 is there", d.start(), 3);

        DefectDrive first = new DefectDrive();
        first.cutAfter(177);
        CHECKS.same("cut before the first mark", first.format(), DefectDrive.OFF);
        CHECKS.same("no copy has a mark", first.start(), 0);
        CHECKS.same("capacity without lists", first.told(0), 0);
    }

    // "then eight entries at a time"

    private static void partsOfEight() {
        for (int entries = 0; entries <= 48; entries++) {
            DefectDrive d = Drives.withPrimaries(entries);
            CHECKS.same(entries + " entries: sector writes", d.told(4), 176 + 1 + (entries + 7) / 8 + 1);
        }
    }

    private static void partsOfBothLists() {
        for (int primaries : new int[] {0, 1, 5, 8, 28}) {
            for (int pairs = 1; pairs <= 20; pairs++) {
                DefectDrive d = Drives.withPairs(primaries, pairs - 1);
                d.spoil(d.physical(pairs - 1), true);
                int before = d.told(4);
                String what = primaries + " primary ones, " + pairs + " pairs";
                CHECKS.same(what, d.reassign(pairs - 1), DefectDrive.DONE);
                CHECKS.same(what + ": sector writes", d.told(4) - before,
                        1 + 1 + (primaries + pairs + 7) / 8 + 1);
            }
        }
    }

    // "The lists IN FORCE are those that were closed last; at first there are none."

    private static void inForce() {
        DefectDrive d = new DefectDrive();
        CHECKS.told("no lists", d, 0, 0, 0, 0);
        CHECKS.outOfBounds("no primary list", () -> d.primary(0));
        CHECKS.outOfBounds("no grown list", () -> d.grown(0, false));
        d.factory(20);
        d.cutAfter(178);
        CHECKS.same("format is cut before the mark", d.format(), DefectDrive.OFF);
        CHECKS.told("not closed", d, 0, 0, 0, 0);
        d.start();
        d.cutAfter(179);
        CHECKS.same("format is cut behind the mark", d.format(), 142);
        CHECKS.told("closed", d, 142, 1, 0, 1);
        d.spoil(16, true);
        d.cutAfter(3);
        CHECKS.same("reassign is cut before the mark", d.reassign(0), DefectDrive.OFF);
        CHECKS.told("closed before", d, 142, 1, 0, 1);
        d.start();
        d.reassign(0);
        CHECKS.told("closed last", d, 142, 2, 1, 1);
    }

    // "LOGICAL sectors 0, 1, .. are the sectors of cylinders 1 .. 11 that are neither spare nor primary,
    // in order; CAPACITY is how many."

    private static void logicalSectorsInOrder() {
        DefectDrive d = new DefectDrive();
        int[] primary = {16, 28, 29, 31, 32, 95, 96, 188, 191};
        for (int k = primary.length - 1; k >= 0; k--) {
            d.factory(primary[k]);
        }
        CHECKS.same("capacity: spare ones are not missed", d.format(), 143 - 5);
        int next = 0;
        for (int sector = 16; sector < 192; sector++) {
            boolean isPrimary = Arrays.binarySearch(primary, sector) >= 0;
            boolean counts = sector % 16 < 13 && !isPrimary;
            CHECKS.same("logical(" + sector + ")", d.logical(sector), counts ? next : DefectDrive.NONE);
            if (counts) {
                CHECKS.same("physical(" + next + ")", d.physical(next), sector);
                next++;
            }
        }
        CHECKS.same("the last one", next, d.told(0));
        CHECKS.outOfBounds("behind the last one", () -> d.physical(138));
    }

    private static void leastCapacity() {
        DefectDrive d = new DefectDrive();
        for (int logical = 0; logical < 48; logical++) {
            d.factory((1 + logical / 13) * 16 + logical % 13);
        }
        CHECKS.same("48 logical sectors less", d.format(), 95);
        CHECKS.same("the first one left", d.physical(0), 73);
        CHECKS.same("the last one left", d.physical(94), 188);
        CHECKS.outOfBounds("physical(95)", () -> d.physical(95));
        CHECKS.outOfBounds("write(95)", () -> d.write(95, 0, 1));
        CHECKS.outOfBounds("read(95)", () -> d.read(95, 0));
        CHECKS.outOfBounds("reassign(95)", () -> d.reassign(95));
        CHECKS.same("seeks of all", d.seeks(0, 95), 7);
        CHECKS.outOfBounds("seeks of one more", () -> d.seeks(0, 96));
    }

    // "Its PLACE is the one that stands for it by a pair, or the sector itself."

    private static void places() {
        DefectDrive d = Drives.formatted();
        d.spoil(16, true);
        CHECKS.same("itself, though it is weak", d.physical(0), 16);
        d.reassign(0);
        CHECKS.same("the one that stands for it", d.physical(0), 29);
        d.write(0, 0, 3);
        d.spoil(16, false);
        CHECKS.same("its own sector is no matter", d.read(0, 0), 3);
        CHECKS.same("its own sector is no place", d.logical(16), DefectDrive.NONE);
        CHECKS.same("its neighbour is itself", d.physical(1), 17);
    }

    // "it is done whole, or not at all"

    private static void wholeOrNotAtAll() {
        DefectDrive d = Drives.formatted();
        d.write(0, 0, 5);
        d.write(0, 1, 6);
        d.cutAfter(0);
        CHECKS.same("a format that writes nothing", d.format(), DefectDrive.OFF);
        d.start();
        CHECKS.same("not at all: word 0", d.read(0, 0), 5);
        CHECKS.same("not at all: word 1", d.read(0, 1), 6);
        d.cutAfter(1);
        CHECKS.same("a format that writes one sector", d.format(), DefectDrive.OFF);
        d.start();
        CHECKS.same("whole: word 0", d.read(0, 0), 0);
        CHECKS.same("whole: word 1", d.read(0, 1), 0);

        DefectDrive parts = Drives.withPrimaries(16);
        parts.cutAfter(176 + 1 + 1);
        CHECKS.same("a format that writes half of the entries", parts.format(), DefectDrive.OFF);
        CHECKS.same("not at all: lists", parts.start(), 1);
        CHECKS.same("not at all: primary ones", parts.told(3), 16);
    }

    // "when none is left, the next one is not done, but the power is OFF, and the call that wanted it answers OFF"

    private static void powerThatEnds() {
        DefectDrive d = Drives.formatted();
        d.cutAfter(2);
        CHECKS.same("the last but one", d.write(0, 0, 1), DefectDrive.DONE);
        CHECKS.told("the last but one", d, 143, 1, 0, 0, 179, 0, 0, 1);
        CHECKS.same("the last", d.write(0, 0, 2), DefectDrive.DONE);
        CHECKS.told("the last", d, 143, 1, 0, 0, 180, 0, 0, 0);
        CHECKS.same("one is read without a write", d.read(0, 0), 2);
        CHECKS.same("none is left", d.write(0, 0, 3), DefectDrive.OFF);
        CHECKS.told("none is left", d, 143, 1, 0, 0, 180, 1, 0, 0);
        d.start();
        CHECKS.same("it was not done", d.read(0, 0), 2);

        DefectDrive none = Drives.formatted();
        none.spoil(16, true);
        none.spoil(17, true);
        none.reassign(1);
        none.cutAfter(0);
        CHECKS.same("DAMAGED wants no write", none.write(0, 0, 1), DefectDrive.DAMAGED);
        CHECKS.same("HEALTHY wants no write", none.reassign(1), DefectDrive.HEALTHY);
        CHECKS.same("the power is on", none.told(5), 0);
        CHECKS.same("reassign wants one", none.reassign(0), DefectDrive.OFF);
        CHECKS.same("the power is off", none.told(5), 1);
    }

    // "what was done before it stays"

    private static void doneBeforeTheCutStays() {
        DefectDrive d = Drives.formatted();
        for (int logical = 0; logical < 143; logical++) {
            d.write(logical, 0, 7);
        }
        d.cutAfter(20);
        CHECKS.same("format is cut in cylinder 2", d.format(), DefectDrive.OFF);
        d.start();
        for (int logical = 0; logical < 143; logical++) {
            CHECKS.same("word of " + logical, d.read(logical, 0), d.physical(logical) < 36 ? 0 : 7);
        }
    }

    // "While it is off, calls that name OFF answer it (behind exceptions)"

    private static void offBehindExceptions() {
        DefectDrive d = Drives.formatted();
        d.spoil(16, true);
        Drives.cut(d);
        CHECKS.same("write", d.write(1, 0, 1), DefectDrive.OFF);
        CHECKS.same("write of a weak one", d.write(0, 0, 1), DefectDrive.OFF);
        CHECKS.same("reassign", d.reassign(0), DefectDrive.OFF);
        CHECKS.same("reassign of a good one", d.reassign(1), DefectDrive.OFF);
        CHECKS.same("format", d.format(), DefectDrive.OFF);
        CHECKS.outOfBounds("write behind its exception", () -> d.write(143, 0, 1));
        CHECKS.outOfBounds("write behind its word's exception", () -> d.write(0, 2, 1));
        CHECKS.outOfBounds("reassign behind its exception", () -> d.reassign(-1));

        DefectDrive full = Drives.withoutSpares();
        full.spoil(16, true);
        Drives.cut(full);
        CHECKS.same("reassign without spares", full.reassign(0), DefectDrive.OFF);
        for (int sector = 32; sector < 45; sector++) {
            full.spoil(sector, false);
        }
        CHECKS.same("format with 47 entries", full.format(), DefectDrive.OFF);
        full.spoil(48, false);
        CHECKS.same("format with 48 entries", full.format(), DefectDrive.OFF);
        full.spoil(49, false);
        CHECKS.illegalState("format behind its exception", full::format);
    }

    // "and nothing is done"

    private static void nothingIsDoneWhileOff() {
        Supplier<DefectDrive> maker = () -> {
            DefectDrive d = Drives.withPairs(3, 2);
            d.write(5, 0, 50);
            d.spoil(d.physical(4), true);
            Drives.cut(d);
            d.cutAfter(400);
            return d;
        };
        CHECKS.idle("write while off", DefectDrive.OFF, maker, d -> d.write(5, 0, 51));
        CHECKS.idle("reassign while off", DefectDrive.OFF, maker, d -> d.reassign(4));
        CHECKS.idle("format while off", DefectDrive.OFF, maker, DefectDrive::format);
        CHECKS.refused("read while off", UnsupportedOperationException.class, maker, d -> d.read(5, 0));
    }

    /** The calls that do not name OFF. */
    private static void othersAnswerWhileOff() {
        DefectDrive d = Drives.withPairs(1, 1);
        Drives.cut(d);
        CHECKS.same("physical", d.physical(0), 29);
        CHECKS.same("logical", d.logical(29), 0);
        CHECKS.same("spares", d.spares(1), 2);
        CHECKS.pair("grown", d, 0, 17, 29);
        CHECKS.same("primary", d.primary(0), 16);
        CHECKS.same("seeks", d.seeks(0, 14), 1);
        CHECKS.same("state", d.state(17), DefectDrive.WEAK);
        CHECKS.same("spoil", d.spoil(17, false), DefectDrive.WEAK);
        CHECKS.same("spoiled", d.state(17), DefectDrive.BAD);
        CHECKS.same("cutAfter", d.cutAfter(9), 9);
        CHECKS.told("told", d, 142, 2, 1, 1, 183, 1, 1, 9);
        CHECKS.same("start", d.start(), 2);

        DefectDrive fresh = Drives.cut(new DefectDrive());
        CHECKS.same("factory", fresh.factory(16), 1);
        CHECKS.same("start without lists", fresh.start(), 0);
    }

    // "Sectors of cylinder 0 are always good."

    private static void cylinder0IsGood() {
        DefectDrive d = new DefectDrive();
        for (int sector = 0; sector < 16; sector++) {
            int asked = sector;
            CHECKS.illegalArgument("weak " + sector, () -> d.spoil(asked, true));
            CHECKS.illegalArgument("bad " + sector, () -> d.spoil(asked, false));
            CHECKS.illegalArgument("factory " + sector, () -> d.factory(asked));
            CHECKS.same("state " + sector, d.state(sector), DefectDrive.GOOD);
        }
        CHECKS.same("the next one", d.spoil(16, true), DefectDrive.GOOD);
    }

    // "Where a call names several exceptions, the first one that fits is thrown"

    private static void firstExceptionOfFactory() {
        DefectDrive d = Drives.withPrimaries(1);
        CHECKS.outOfBounds("no sector, formatted", () -> d.factory(192));
        CHECKS.outOfBounds("below the first sector, formatted", () -> d.factory(-1));
        CHECKS.illegalArgument("cylinder 0, formatted", () -> d.factory(15));
        CHECKS.illegalArgument("one already, formatted", () -> d.factory(16));
        CHECKS.illegalState("formatted", () -> d.factory(17));
        DefectDrive fresh = new DefectDrive();
        CHECKS.outOfBounds("-1 is of no cylinder", () -> fresh.factory(-1));
        CHECKS.outOfBounds("-15 is of no cylinder", () -> fresh.factory(-15));
    }

    private static void firstExceptionOfRead() {
        DefectDrive d = Drives.formatted();
        d.spoil(16, false);
        d.reassign(0);
        CHECKS.noSuchElement("lost", () -> d.read(0, 0));
        d.spoil(29, false);
        CHECKS.illegalState("bad, lost", () -> d.read(0, 0));
        CHECKS.outOfBounds("no word, bad, lost", () -> d.read(0, 2));
        Drives.cut(d);
        CHECKS.unsupported("off, bad, lost", () -> d.read(0, 0));
        CHECKS.unsupported("off", () -> d.read(1, 0));
        CHECKS.outOfBounds("no word, off, bad, lost", () -> d.read(0, -1));
        CHECKS.outOfBounds("no logical sector, off", () -> d.read(143, 0));
        DefectDrive lost = Drives.formatted();
        lost.spoil(16, false);
        lost.reassign(0);
        Drives.cut(lost);
        CHECKS.unsupported("off, lost", () -> lost.read(0, 0));
        DefectDrive fresh = Drives.cut(new DefectDrive());
        CHECKS.outOfBounds("no capacity, off", () -> fresh.read(0, 0));
    }

    private static void firstExceptionOfSpoil() {
        DefectDrive d = new DefectDrive();
        CHECKS.outOfBounds("-1 is of no cylinder", () -> d.spoil(-1, true));
        CHECKS.outOfBounds("-15 is of no cylinder", () -> d.spoil(-15, false));
        CHECKS.illegalArgument("cylinder 0", () -> d.spoil(0, true));
    }

    // "a call that throws changes nothing"

    private static void throwsChangeNothing() {
        for (boolean off : new boolean[] {false, true}) {
            Supplier<DefectDrive> maker = () -> {
                DefectDrive d = mixedDrive();
                return off ? Drives.cut(d) : d;
            };
            CHECKS.refused("factory(192)", IndexOutOfBoundsException.class, maker, d -> d.factory(192));
            CHECKS.refused("factory(15)", IllegalArgumentException.class, maker, d -> d.factory(15));
            CHECKS.refused("factory(16)", IllegalArgumentException.class, maker, d -> d.factory(16));
            CHECKS.refused("factory(100)", IllegalStateException.class, maker, d -> d.factory(100));
            CHECKS.refused("write(-1, 0, 1)", IndexOutOfBoundsException.class, maker, d -> d.write(-1, 0, 1));
            CHECKS.refused("write(139, 0, 1)", IndexOutOfBoundsException.class, maker, d -> d.write(139, 0, 1));
            CHECKS.refused("write(0, 2, 1)", IndexOutOfBoundsException.class, maker, d -> d.write(0, 2, 1));
            CHECKS.refused("write(0, -1, 1)", IndexOutOfBoundsException.class, maker, d -> d.write(0, -1, 1));
            CHECKS.refused("read(139, 0)", IndexOutOfBoundsException.class, maker, d -> d.read(139, 0));
            CHECKS.refused("reassign(-1)", IndexOutOfBoundsException.class, maker, d -> d.reassign(-1));
            CHECKS.refused("reassign(139)", IndexOutOfBoundsException.class, maker, d -> d.reassign(139));
            CHECKS.refused("spoil(-1, false)", IndexOutOfBoundsException.class, maker, d -> d.spoil(-1, false));
            CHECKS.refused("spoil(192, false)", IndexOutOfBoundsException.class, maker, d -> d.spoil(192, false));
            CHECKS.refused("spoil(0, false)", IllegalArgumentException.class, maker, d -> d.spoil(0, false));
            CHECKS.refused("spoil(15, true)", IllegalArgumentException.class, maker, d -> d.spoil(15, true));
            CHECKS.refused("cutAfter(-2)", IllegalArgumentException.class, maker, d -> d.cutAfter(-2));
            CHECKS.refused("physical(139)", IndexOutOfBoundsException.class, maker, d -> d.physical(139));
            CHECKS.refused("logical(192)", IndexOutOfBoundsException.class, maker, d -> d.logical(192));
            CHECKS.refused("spares(0)", IndexOutOfBoundsException.class, maker, d -> d.spares(0));
            CHECKS.refused("grown(3, true)", IndexOutOfBoundsException.class, maker, d -> d.grown(3, true));
            CHECKS.refused("primary(4)", IndexOutOfBoundsException.class, maker, d -> d.primary(4));
            CHECKS.refused("seeks(0, 0)", IndexOutOfBoundsException.class, maker, d -> d.seeks(0, 0));
            CHECKS.refused("state(-1)", IndexOutOfBoundsException.class, maker, d -> d.state(-1));
        }
        Supplier<DefectDrive> bad = () -> {
            DefectDrive d = mixedDrive();
            d.spoil(d.physical(7), false);
            return d;
        };
        CHECKS.refused("read(7, 0)", IllegalStateException.class, bad, d -> d.read(7, 0));
        CHECKS.refused("read(2, 0)", NoSuchElementException.class, TermsTest::mixedDrive, d -> d.read(2, 0));
        formatThatThrows();
    }

    /** Primary ones, pairs, words that are lost and words that are not, power for some writes. */
    private static DefectDrive mixedDrive() {
        DefectDrive d = Drives.withPairs(4, 2);
        d.spoil(d.physical(2), false);
        d.reassign(2);
        d.write(0, 1, 10);
        d.write(9, 0, 90);
        d.cutAfter(7);
        return d;
    }

    private static void formatThatThrows() {
        Supplier<DefectDrive> tooMany = () -> {
            DefectDrive d = mixedDrive();
            for (int sector = 64; sector < 106; sector++) {
                d.spoil(sector, true);
            }
            return d;
        };
        CHECKS.refused("format() of 49", IllegalStateException.class, tooMany, DefectDrive::format);
        CHECKS.refused("format() of 49, none is left", IllegalStateException.class, () -> {
            DefectDrive d = tooMany.get();
            d.cutAfter(0);
            return d;
        }, DefectDrive::format);
        CHECKS.refused("format() of 49, off", IllegalStateException.class, () -> {
            DefectDrive d = mixedDrive();
            Drives.cut(d);
            for (int sector = 64; sector < 106; sector++) {
                d.spoil(sector, true);
            }
            return d;
        }, DefectDrive::format);
        CHECKS.refused("format() of 49 factory defects", IllegalStateException.class, () -> {
            DefectDrive d = new DefectDrive();
            for (int sector = 16; sector < 65; sector++) {
                d.factory(sector);
            }
            return d;
        }, DefectDrive::format);
    }
}
