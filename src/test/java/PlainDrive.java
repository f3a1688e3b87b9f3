import java.util.ArrayList;
import java.util.List;
import java.util.NoSuchElementException;
import java.util.TreeSet;

/**
 * The document a second time, as plainly as it goes: nothing is kept that can be worked out, and a
 * sector write that has no power is an exception that ends the call.
 */
final class PlainDrive {
    private static final class NoPower extends RuntimeException {
        private static final long serialVersionUID = 1L;
    }

    private record Sector(Integer first, Integer second) {
    }

    private record Pair(int own, int spare) {
    }

    private record Listed(int version, List<Integer> primary, List<Pair> grown) {
        int entries() {
            return primary.size() + grown.size();
        }
    }

    private static final class Copy {
        private int version;
        private final List<Object> entries = new ArrayList<>();
        private boolean mark;

        Listed listed() {
            List<Integer> primary = new ArrayList<>();
            List<Pair> grown = new ArrayList<>();
            for (Object entry : entries) {
                if (entry instanceof Pair pair) {
                    grown.add(pair);
                } else if (entry instanceof Integer sector) {
                    primary.add(sector);
                }
            }
            return new Listed(version, primary, grown);
        }
    }

    private final int[] states = new int[192];
    private final Sector[] sectors = new Sector[192];
    private final TreeSet<Integer> factory = new TreeSet<>();
    private final Copy a = new Copy();
    private final Copy b = new Copy();
    private Listed inForce = new Listed(0, List.of(), List.of());
    private boolean answeredCapacity = false;
    private boolean off = false;
    private int lasts = -1;
    private int done = 0;

    PlainDrive() {
        for (int s = 0; s < 192; s++) {
            sectors[s] = new Sector(0, 0);
        }
    }

    private void sectorWrite() {
        if (lasts == 0) {
            off = true;
            throw new NoPower();
        }
        if (lasts > 0) {
            lasts--;
        }
        done++;
    }

    private void writeLists(Listed lists) {
        Copy copy = lists.version % 2 == 1 ? a : b;
        sectorWrite();
        copy.mark = false;
        copy.version = lists.version;
        copy.entries.clear();
        List<Object> all = new ArrayList<>(lists.primary);
        all.addAll(lists.grown);
        while (!all.isEmpty()) {
            sectorWrite();
            for (int k = 0; k < 8 && !all.isEmpty(); k++) {
                copy.entries.add(all.remove(0));
            }
        }
        sectorWrite();
        copy.mark = true;
        inForce = copy.listed();
    }

    private static boolean spare(int s) {
        return s >= 16 && s % 16 > 12;
    }

    private List<Integer> ownSectors() {
        List<Integer> own = new ArrayList<>();
        for (int s = 16; s < 192 && inForce.version > 0; s++) {
            if (!spare(s) && !inForce.primary.contains(s)) {
                own.add(s);
            }
        }
        return own;
    }

    private int placeOf(int own) {
        for (Pair pair : inForce.grown) {
            if (pair.own == own) {
                return pair.spare;
            }
        }
        return own;
    }

    private boolean free(int s) {
        return spare(s) && states[s] == 0 && !inForce.primary.contains(s)
                && inForce.grown.stream().noneMatch(pair -> pair.spare == s);
    }

    private int own(int logical) {
        List<Integer> own = ownSectors();
        if (logical < 0 || logical >= own.size()) {
            throw new IndexOutOfBoundsException();
        }
        return own.get(logical);
    }

    private static void checkSector(int s) {
        if (s < 0 || s > 191) {
            throw new IndexOutOfBoundsException();
        }
    }

    private static void checkWord(int i) {
        if (i != 0 && i != 1) {
            throw new IndexOutOfBoundsException();
        }
    }

    int factory(int s) {
        checkSector(s);
        if (s < 16 || factory.contains(s)) {
            throw new IllegalArgumentException();
        }
        if (answeredCapacity) {
            throw new IllegalStateException();
        }
        factory.add(s);
        return factory.size();
    }

    int format() {
        TreeSet<Integer> primary = new TreeSet<>(factory);
        for (int s = 16; s < 192; s++) {
            if (states[s] != 0) {
                primary.add(s);
            }
        }
        inForce.grown.forEach(pair -> primary.add(pair.own));
        if (primary.size() > 48) {
            throw new IllegalStateException();
        }
        if (off) {
            return -5;
        }
        try {
            for (int s = 16; s < 192; s++) {
                if (states[s] == 0) {
                    sectorWrite();
                    sectors[s] = new Sector(0, 0);
                }
            }
            writeLists(new Listed(inForce.version + 1, new ArrayList<>(primary), List.of()));
        } catch (NoPower e) {
            return -5;
        }
        answeredCapacity = true;
        return ownSectors().size();
    }

    int write(int logical, int i, int v) {
        int place = placeOf(own(logical));
        checkWord(i);
        if (off) {
            return -5;
        }
        if (states[place] != 0) {
            return 1;
        }
        try {
            sectorWrite();
        } catch (NoPower e) {
            return -5;
        }
        Sector old = sectors[place];
        sectors[place] = i == 0 ? new Sector(v, old.second) : new Sector(old.first, v);
        return 0;
    }

    int read(int logical, int i) {
        int place = placeOf(own(logical));
        checkWord(i);
        if (off) {
            throw new UnsupportedOperationException();
        }
        if (states[place] == 2) {
            throw new IllegalStateException();
        }
        Integer word = i == 0 ? sectors[place].first : sectors[place].second;
        if (word == null) {
            throw new NoSuchElementException();
        }
        return word;
    }

    int reassign(int logical) {
        int own = own(logical);
        int place = placeOf(own);
        if (off) {
            return -5;
        }
        if (states[place] == 0) {
            return 2;
        }
        int chosen = -1;
        for (int distance = 0; distance < 12 && chosen < 0; distance++) {
            for (int s = 191; s >= 16; s--) {
                if (free(s) && Math.abs(s / 16 - place / 16) == distance) {
                    chosen = s;
                }
            }
        }
        if (chosen < 0) {
            return 3;
        }
        List<Pair> grown = new ArrayList<>(inForce.grown);
        if (place == own) {
            grown.add(new Pair(own, chosen));
        } else {
            grown.set(grown.indexOf(new Pair(own, place)), new Pair(own, chosen));
        }
        Listed next = new Listed(inForce.version + 1, inForce.primary, grown);
        if (grown.size() > 20 || next.entries() > 48) {
            return 3;
        }
        try {
            sectorWrite();
            sectors[chosen] = states[place] == 1 ? sectors[place] : new Sector(null, null);
            writeLists(next);
        } catch (NoPower e) {
            return -5;
        }
        return states[place] == 1 ? 0 : 1;
    }

    int spoil(int s, boolean weak) {
        checkSector(s);
        if (s < 16) {
            throw new IllegalArgumentException();
        }
        int was = states[s];
        states[s] = weak ? Math.max(was, 1) : 2;
        return was;
    }

    int cutAfter(int n) {
        if (n < -1) {
            throw new IllegalArgumentException();
        }
        lasts = n;
        return n;
    }

    int start() {
        off = false;
        lasts = -1;
        inForce = new Listed(0, List.of(), List.of());
        for (Copy copy : List.of(a, b)) {
            if (copy.mark && copy.version > inForce.version) {
                inForce = copy.listed();
            }
        }
        return inForce.version;
    }

    int physical(int logical) {
        return placeOf(own(logical));
    }

    int logical(int s) {
        checkSector(s);
        List<Integer> places = new ArrayList<>();
        ownSectors().forEach(own -> places.add(placeOf(own)));
        return places.indexOf(s);
    }

    int spares(int cylinder) {
        if (cylinder < 1 || cylinder > 11) {
            throw new IndexOutOfBoundsException();
        }
        int count = 0;
        for (int s = 16; s < 192; s++) {
            count += s / 16 == cylinder && free(s) ? 1 : 0;
        }
        return count;
    }

    int grown(int k, boolean spare) {
        Pair pair = inForce.grown.get(k);
        return spare ? pair.spare : pair.own;
    }

    int primary(int k) {
        return inForce.primary.get(k);
    }

    int seeks(int from, int n) {
        long end = (long) from + n;
        if (n < 1 || from < 0 || end > ownSectors().size()) {
            throw new IndexOutOfBoundsException();
        }
        int changes = 0;
        int cylinder = physical(from) / 16;
        for (int k = from; k < end; k++) {
            int next = physical(k) / 16;
            changes += next == cylinder ? 0 : 1;
            cylinder = next;
        }
        return changes;
    }

    int state(int s) {
        checkSector(s);
        return states[s];
    }

    int told(int what) {
        int[] all = {ownSectors().size(), inForce.version, inForce.grown.size(), inForce.primary.size(),
            done, off ? 1 : 0, factory.size(), lasts};
        return what < 0 || what > 7 ? -1 : all[what];
    }
}
