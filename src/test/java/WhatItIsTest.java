import java.util.function.Supplier;
import java.util.function.ToIntFunction;

/** The sentences of the document's first section, 'What it is'; each stands above its method. */
public final class WhatItIsTest {
    private static final int MOST_CALLS = 512;
    private static final Checks CHECKS = new Checks();

    public static void main(String[] args) {
        slippedOver();
        movedToTheNearest();
        oldMapOrNewOne();
        oldMapAfterTwoCuts();
        as512CallsGo();
        objectsOfTheirOwn();
        CHECKS.end();
    }

    // "sectors that are bad from the beginning are slipped over when it is formatted"

    private static void slippedOver() {
        DefectDrive d = new DefectDrive();
        d.factory(16);
        d.spoil(18, false);
        d.spoil(28, true);
        d.factory(191);
        CHECKS.same("slipped: format", d.format(), 140);
        int[] places = {17, 19, 20, 21, 22, 23, 24, 25, 26, 27, 32};
        for (int logical = 0; logical < places.length; logical++) {
            CHECKS.same("slipped: physical(" + logical + ")", d.physical(logical), places[logical]);
        }
        CHECKS.same("slipped: the last one", d.physical(139), 188);
        CHECKS.primaries("slipped", d, 16, 18, 28, 191);
        CHECKS.same("slipped: pairs", d.told(2), 0);
    }

    // "those that turn bad later are moved to the nearest spare one"

    private static void movedToTheNearest() {
        DefectDrive d = Drives.formatted();
        int last = d.told(0) - 1;
        d.spoil(188, false);
        CHECKS.same("moved: reassign", d.reassign(last), DefectDrive.DAMAGED);
        CHECKS.same("moved: to", d.physical(last), 189);
        CHECKS.same("moved: the one before stays", d.physical(last - 1), 187);
        CHECKS.same("moved: capacity", d.told(0), last + 1);
        CHECKS.same("moved: primary ones", d.told(3), 0);
    }

    // "both lists are kept in two copies, written sector by sector, so that after a power cut either the
    // old map or the new one is there"

    private static void oldMapOrNewOne() {
        eitherMap("first format", WhatItIsTest::withDefects, DefectDrive::format, 175 + 3);
        eitherMap("second format", WhatItIsTest::withSpoiledPairs, DefectDrive::format, 165 + 4);
        eitherMap("a new pair", WhatItIsTest::withSpoiledPairs, d -> d.reassign(11), 1 + 4);
        eitherMap("another spare in a pair", WhatItIsTest::withSpoiledPairs, d -> d.reassign(0), 1 + 4);
    }

    private static void eitherMap(String name, Supplier<DefectDrive> maker, ToIntFunction<DefectDrive> call,
            int writes) {
        String oldMap = mapOf(maker.get());
        DefectDrive uncut = maker.get();
        call.applyAsInt(uncut);
        String newMap = mapOf(uncut);
        CHECKS.holds(name + ": it makes another map", !oldMap.equals(newMap));
        for (int n = 0; n <= writes; n++) {
            DefectDrive d = maker.get();
            d.cutAfter(n);
            boolean whole = call.applyAsInt(d) != DefectDrive.OFF;
            String what = name + ", cut after " + n;
            CHECKS.holds(what + ": whole with all writes alone", whole == (n == writes));
            d.start();
            CHECKS.holds(what + (whole ? ": the new map" : ": the old map"),
                    mapOf(d).equals(whole ? newMap : oldMap));
        }
    }

    /** A second cut comes when the other copy is open already: the one in force must not be touched. */
    private static void oldMapAfterTwoCuts() {
        String oldMap = mapOf(withSpoiledPairs());
        DefectDrive uncut = withSpoiledPairs();
        uncut.reassign(11);
        String newMap = mapOf(uncut);
        for (int first = 0; first < 5; first++) {
            for (int second = 0; second < 165 + 4; second++) {
                DefectDrive d = withSpoiledPairs();
                String what = "cuts after " + first + " and " + second;
                d.cutAfter(first);
                CHECKS.same(what + ": reassign", d.reassign(11), DefectDrive.OFF);
                d.start();
                d.cutAfter(second);
                CHECKS.same(what + ": format", d.format(), DefectDrive.OFF);
                d.start();
                CHECKS.holds(what + ": the old map", mapOf(d).equals(oldMap));
                d.reassign(11);
                CHECKS.holds(what + ": the new map then", mapOf(d).equals(newMap));
            }
        }
    }

    private static DefectDrive withDefects() {
        DefectDrive d = new DefectDrive();
        d.factory(40);
        d.spoil(20, true);
        return d;
    }

    /** 2 primary ones and 9 pairs in two parts, of which pair 0 has a bad spare; logical sector 11 is weak. */
    private static DefectDrive withSpoiledPairs() {
        DefectDrive d = Drives.withPairs(2, 9);
        d.spoil(d.grown(0, true), false);
        d.spoil(d.physical(11), true);
        return d;
    }

    private static String mapOf(DefectDrive d) {
        return "version " + d.told(1) + Looks.part(1, d);
    }

    // "An object is used for at most 512 calls after it has been made"

    private static void as512CallsGo() {
        DefectDrive d = new DefectDrive();
        for (int call = 1; call < MOST_CALLS; call++) {
            CHECKS.same("call " + call + ": format", d.format(), 143);
        }
        CHECKS.same("the last call", d.told(1), MOST_CALLS - 1);

        DefectDrive moved = Drives.formatted();
        int rounds = (MOST_CALLS - 2) / 3;
        for (int round = 0; round < rounds; round++) {
            moved.spoil(moved.physical(0), true);
            CHECKS.same("round " + round + ": reassign", moved.reassign(0),
                    round < 33 ? DefectDrive.DONE : DefectDrive.FULL);
        }
        CHECKS.same("versions of the moved one", moved.told(1), 1 + 33);
    }

    /** What one object is told, another one does not know. */
    private static void objectsOfTheirOwn() {
        for (int part = 0; part < Looks.PARTS; part++) {
            DefectDrive one = Drives.formatted();
            String due = Looks.part(part, Drives.formatted());
            DefectDrive other = withSpoiledPairs();
            other.write(20, 0, 5);
            Drives.cut(other);
            CHECKS.holds("part " + part + " of an object beside another", Looks.part(part, one).equals(due));
        }
    }
}
