import java.util.Arrays;
import java.util.NoSuchElementException;

/**
 * A drive that keeps its defects: bad sectors are slipped over by format(), or moved to the nearest
 * spare one by reassign(), and a power cut leaves either the old map or the new one.
 */
public final class DefectDrive {
    public static final int OFF = -5, NONE = -1;
    public static final int DONE = 0, DAMAGED = 1, HEALTHY = 2, FULL = 3;
    public static final int GOOD = 0, WEAK = 1, BAD = 2;

    private static final int SECTORS = 192;
    private static final int CYLINDERS = 12;
    private static final int SECTORS_PER_CYLINDER = 16;
    private static final int FIRST_SPARE_OF_CYLINDER = 13;
    private static final int FIRST_DATA_SECTOR = SECTORS_PER_CYLINDER;
    private static final int MOST_LOGICAL = (CYLINDERS - 1) * FIRST_SPARE_OF_CYLINDER;
    private static final int WORDS = 2;
    private static final int MOST_ENTRIES = 48;
    private static final int MOST_PAIRS = 20;
    private static final int ENTRIES_PER_PART = 8;
    private static final int FOR_EVER = -1;

    private final Power power = new Power();
    private final Surface surface = new Surface();
    private final SectorMap map = new SectorMap();
    private final Lists noLists = new Lists();
    private final Lists copyA = new Lists();
    private final Lists copyB = new Lists();
    private final Lists draft = new Lists();
    private Lists inForce = noLists;
    private final boolean[] factoryDefect = new boolean[SECTORS];
    private int factoryDefects;
    private boolean formatted;

    public DefectDrive() {
    }

    public int factory(int sector)
            throws IndexOutOfBoundsException, IllegalArgumentException, IllegalStateException {
        if (!isSector(sector)) {
            throw new IndexOutOfBoundsException();
        }
        if (sector < FIRST_DATA_SECTOR || factoryDefect[sector]) {
            throw new IllegalArgumentException();
        }
        if (formatted) {
            throw new IllegalStateException();
        }
        factoryDefect[sector] = true;
        factoryDefects++;
        return factoryDefects;
    }

    public int format() throws IllegalStateException {
        // Counted before anything is written, because a call that throws changes nothing.
        if (countSlipped() > MOST_ENTRIES) {
            throw new IllegalStateException();
        }
        if (power.off) {
            return OFF;
        }
        if (!wipeGoodSectors()) {
            return OFF;
        }
        draftSlipped();
        if (!writeDraft()) {
            return OFF;
        }
        formatted = true;
        return map.capacity;
    }

    public int write(int logical, int i, int v) throws IndexOutOfBoundsException {
        if (!map.holds(logical) || !isWord(i)) {
            throw new IndexOutOfBoundsException();
        }
        if (power.off) {
            return OFF;
        }
        int place = map.place[logical];
        if (surface.condition[place] != GOOD) {
            return DAMAGED;
        }
        if (!power.lastsForOneWrite()) {
            return OFF;
        }
        surface.put(place, i, v);
        return DONE;
    }

    public int read(int logical, int i)
            throws IndexOutOfBoundsException, UnsupportedOperationException, IllegalStateException,
            NoSuchElementException {
        if (!map.holds(logical) || !isWord(i)) {
            throw new IndexOutOfBoundsException();
        }
        if (power.off) {
            throw new UnsupportedOperationException();
        }
        int place = map.place[logical];
        if (surface.condition[place] == BAD) {
            throw new IllegalStateException();
        }
        if (surface.isLost(place, i)) {
            throw new NoSuchElementException();
        }
        return surface.wordOf(place, i);
    }

    public int reassign(int logical) throws IndexOutOfBoundsException {
        if (!map.holds(logical)) {
            throw new IndexOutOfBoundsException();
        }
        if (power.off) {
            return OFF;
        }
        int oldPlace = map.place[logical];
        int oldCondition = surface.condition[oldPlace];
        if (oldCondition == GOOD) {
            return HEALTHY;
        }
        int own = map.own[logical];
        int spare = nearestFreeSpare(oldPlace);
        if (spare == NONE || !inForce.hasRoomForPairOf(own)) {
            return FULL;
        }
        if (!power.lastsForOneWrite()) {
            return OFF;
        }
        surface.move(oldPlace, spare);
        draft.becomeWithPair(inForce, own, spare);
        if (!writeDraft()) {
            return OFF;
        }
        return oldCondition == BAD ? DAMAGED : DONE;
    }

    public int spoil(int sector, boolean weak)
            throws IndexOutOfBoundsException, IllegalArgumentException {
        if (!isSector(sector)) {
            throw new IndexOutOfBoundsException();
        }
        if (sector < FIRST_DATA_SECTOR) {
            throw new IllegalArgumentException();
        }
        int before = surface.condition[sector];
        if (!weak) {
            surface.condition[sector] = BAD;
        } else if (before == GOOD) {
            surface.condition[sector] = WEAK;
        }
        return before;
    }

    public int cutAfter(int n) throws IllegalArgumentException {
        if (n < FOR_EVER) {
            throw new IllegalArgumentException();
        }
        power.writesLeft = n;
        return n;
    }

    public int start() {
        power.off = false;
        power.writesLeft = FOR_EVER;
        Lists newest = noLists;
        if (copyA.closed) {
            newest = copyA;
        }
        if (copyB.closed && copyB.version > newest.version) {
            newest = copyB;
        }
        bringIntoForce(newest);
        return inForce.version;
    }

    public int physical(int logical) throws IndexOutOfBoundsException {
        if (!map.holds(logical)) {
            throw new IndexOutOfBoundsException();
        }
        return map.place[logical];
    }

    public int logical(int sector) throws IndexOutOfBoundsException {
        if (!isSector(sector)) {
            throw new IndexOutOfBoundsException();
        }
        return map.logicalAt[sector];
    }

    public int spares(int cylinder) throws IndexOutOfBoundsException {
        if (cylinder < 1 || cylinder >= CYLINDERS) {
            throw new IndexOutOfBoundsException();
        }
        int first = cylinder * SECTORS_PER_CYLINDER + FIRST_SPARE_OF_CYLINDER;
        int end = (cylinder + 1) * SECTORS_PER_CYLINDER;
        int free = 0;
        for (int sector = first; sector < end; sector++) {
            if (isFreeSpare(sector)) {
                free++;
            }
        }
        return free;
    }

    public int grown(int k, boolean spare) throws IndexOutOfBoundsException {
        if (k < 0 || k >= inForce.pairs) {
            throw new IndexOutOfBoundsException();
        }
        int entry = inForce.primaries + k;
        return spare ? inForce.standIn[entry] : inForce.sector[entry];
    }

    public int primary(int k) throws IndexOutOfBoundsException {
        if (k < 0 || k >= inForce.primaries) {
            throw new IndexOutOfBoundsException();
        }
        return inForce.sector[k];
    }

    public int seeks(int from, int n) throws IndexOutOfBoundsException {
        // Asked as a difference, because from + n may wrap around.
        if (n < 1 || !map.holds(from) || n > map.capacity - from) {
            throw new IndexOutOfBoundsException();
        }
        int changes = 0;
        for (int logical = from + 1; logical < from + n; logical++) {
            if (cylinderOf(map.place[logical - 1]) != cylinderOf(map.place[logical])) {
                changes++;
            }
        }
        return changes;
    }

    public int state(int sector) throws IndexOutOfBoundsException {
        if (!isSector(sector)) {
            throw new IndexOutOfBoundsException();
        }
        return surface.condition[sector];
    }

    public int told(int what) {
        switch (what) {
            case 0:
                return map.capacity;
            case 1:
                return inForce.version;
            case 2:
                return inForce.pairs;
            case 3:
                return inForce.primaries;
            case 4:
                return power.writesDone;
            case 5:
                return power.off ? 1 : 0;
            case 6:
                return factoryDefects;
            case 7:
                return power.writesLeft;
            default:
                return NONE;
        }
    }

    private static boolean isSector(int sector) {
        return sector >= 0 && sector < SECTORS;
    }

    private static boolean isWord(int i) {
        return i >= 0 && i < WORDS;
    }

    private static int cylinderOf(int sector) {
        return sector / SECTORS_PER_CYLINDER;
    }

    private static boolean isSpare(int sector) {
        return sector >= FIRST_DATA_SECTOR
                && sector % SECTORS_PER_CYLINDER >= FIRST_SPARE_OF_CYLINDER;
    }

    /** Whether a format now would make this sector primary. */
    private boolean isSlipped(int sector) {
        return factoryDefect[sector]
                || surface.condition[sector] != GOOD
                || inForce.pairOf(sector) != NONE;
    }

    private int countSlipped() {
        int slipped = 0;
        for (int sector = FIRST_DATA_SECTOR; sector < SECTORS; sector++) {
            if (isSlipped(sector)) {
                slipped++;
            }
        }
        return slipped;
    }

    private void draftSlipped() {
        draft.becomeEmpty(inForce.version + 1);
        for (int sector = FIRST_DATA_SECTOR; sector < SECTORS; sector++) {
            if (isSlipped(sector)) {
                draft.addPrimary(sector);
            }
        }
    }

    private boolean wipeGoodSectors() {
        for (int sector = FIRST_DATA_SECTOR; sector < SECTORS; sector++) {
            if (surface.condition[sector] == GOOD) {
                if (!power.lastsForOneWrite()) {
                    return false;
                }
                surface.wipe(sector);
            }
        }
        return true;
    }

    private boolean isFreeSpare(int sector) {
        return isSpare(sector)
                && surface.condition[sector] == GOOD
                && !map.isPrimary[sector]
                && map.logicalAt[sector] == NONE;
    }

    private int nearestFreeSpare(int place) {
        int nearest = NONE;
        int least = CYLINDERS;
        // Going upwards, only a nearer one is taken, so that of several the least one stays.
        for (int sector = FIRST_DATA_SECTOR; sector < SECTORS; sector++) {
            int distance = Math.abs(cylinderOf(sector) - cylinderOf(place));
            if (distance < least && isFreeSpare(sector)) {
                nearest = sector;
                least = distance;
            }
        }
        return nearest;
    }

    /**
     * Writes the draft part by part; false when the power went off. The copy is never the one in
     * force, because versions go up by one and so the copies take turns.
     */
    private boolean writeDraft() {
        Lists copy = (draft.version & 1) == 1 ? copyA : copyB;
        if (!power.lastsForOneWrite()) {
            return false;
        }
        copy.begin(draft);
        for (int entry = 0; entry < draft.entries(); entry += ENTRIES_PER_PART) {
            if (!power.lastsForOneWrite()) {
                return false;
            }
            copy.takePart(draft, entry);
        }
        if (!power.lastsForOneWrite()) {
            return false;
        }
        copy.closed = true;
        bringIntoForce(copy);
        return true;
    }

    private void bringIntoForce(Lists lists) {
        inForce = lists;
        map.follow(lists);
    }

    /** The power, which every sector write must ask. */
    private static final class Power {
        private boolean off;
        private int writesLeft = FOR_EVER;
        private int writesDone;

        /** Counts one sector write, or goes off if none is left. */
        boolean lastsForOneWrite() {
            if (writesLeft == 0) {
                off = true;
                return false;
            }
            if (writesLeft != FOR_EVER) {
                writesLeft--;
            }
            writesDone++;
            return true;
        }
    }

    /** The sectors themselves: how they are, and their words. */
    private static final class Surface {
        private final int[] condition = new int[SECTORS];
        private final int[] word = new int[SECTORS * WORDS];
        private final boolean[] lost = new boolean[SECTORS * WORDS];

        int wordOf(int sector, int i) {
            return word[sector * WORDS + i];
        }

        boolean isLost(int sector, int i) {
            return lost[sector * WORDS + i];
        }

        void put(int sector, int i, int v) {
            word[sector * WORDS + i] = v;
            lost[sector * WORDS + i] = false;
        }

        void wipe(int sector) {
            for (int i = 0; i < WORDS; i++) {
                put(sector, i, 0);
            }
        }

        /** The words of a weak sector go along as they are, lost ones too; those of a bad one are lost. */
        void move(int from, int to) {
            for (int i = 0; i < WORDS; i++) {
                word[to * WORDS + i] = word[from * WORDS + i];
                lost[to * WORDS + i] = condition[from] == BAD || lost[from * WORDS + i];
            }
        }
    }

    /** One set of lists: the primary entries first, the pairs behind them. */
    private static final class Lists {
        private int version;
        private boolean closed;
        private int primaries;
        private int pairs;
        private final int[] sector = new int[MOST_ENTRIES];
        private final int[] standIn = new int[MOST_ENTRIES];

        int entries() {
            return primaries + pairs;
        }

        /** Which pair's first one a sector is, or NONE. */
        int pairOf(int own) {
            for (int k = 0; k < pairs; k++) {
                if (sector[primaries + k] == own) {
                    return k;
                }
            }
            return NONE;
        }

        boolean hasRoomForPairOf(int own) {
            return pairOf(own) != NONE || (pairs < MOST_PAIRS && entries() < MOST_ENTRIES);
        }

        void becomeEmpty(int newVersion) {
            version = newVersion;
            primaries = 0;
            pairs = 0;
        }

        void addPrimary(int defect) {
            if (entries() < MOST_ENTRIES) {
                sector[primaries] = defect;
                standIn[primaries] = NONE;
                primaries++;
            }
        }

        /** The next version of other lists, in which a spare stands for a sector. */
        void becomeWithPair(Lists old, int own, int spare) {
            version = old.version + 1;
            primaries = old.primaries;
            pairs = old.pairs;
            System.arraycopy(old.sector, 0, sector, 0, MOST_ENTRIES);
            System.arraycopy(old.standIn, 0, standIn, 0, MOST_ENTRIES);
            int k = pairOf(own);
            if (k != NONE) {
                standIn[primaries + k] = spare;
            } else if (entries() < MOST_ENTRIES) {
                sector[entries()] = own;
                standIn[entries()] = spare;
                pairs++;
            }
        }

        /** The counts come with the beginning: nobody looks at them before the copy is closed. */
        void begin(Lists source) {
            closed = false;
            version = source.version;
            primaries = source.primaries;
            pairs = source.pairs;
        }

        void takePart(Lists source, int from) {
            int end = Math.min(from + ENTRIES_PER_PART, source.entries());
            for (int entry = from; entry < end; entry++) {
                sector[entry] = source.sector[entry];
                standIn[entry] = source.standIn[entry];
            }
        }
    }

    /** The map by the lists in force, worked out once when they come in force. */
    private static final class SectorMap {
        private int capacity;
        private final int[] own = new int[MOST_LOGICAL];
        private final int[] place = new int[MOST_LOGICAL];
        private final int[] logicalAt = new int[SECTORS];
        private final boolean[] isPrimary = new boolean[SECTORS];

        SectorMap() {
            Arrays.fill(logicalAt, NONE);
        }

        boolean holds(int logical) {
            return logical >= 0 && logical < capacity;
        }

        void follow(Lists lists) {
            forget();
            if (lists.version == 0) {
                return;
            }
            for (int k = 0; k < lists.primaries; k++) {
                isPrimary[lists.sector[k]] = true;
            }
            numberSectors();
            for (int k = lists.primaries; k < lists.entries(); k++) {
                redirect(lists.sector[k], lists.standIn[k]);
            }
        }

        private void forget() {
            capacity = 0;
            for (int sector = 0; sector < SECTORS; sector++) {
                logicalAt[sector] = NONE;
                isPrimary[sector] = false;
            }
        }

        private void numberSectors() {
            for (int sector = FIRST_DATA_SECTOR; sector < SECTORS; sector++) {
                if (!isSpare(sector) && !isPrimary[sector] && capacity < MOST_LOGICAL) {
                    own[capacity] = sector;
                    place[capacity] = sector;
                    logicalAt[sector] = capacity;
                    capacity++;
                }
            }
        }

        private void redirect(int from, int to) {
            int logical = logicalAt[from];
            if (logical != NONE) {
                place[logical] = to;
                logicalAt[from] = NONE;
                logicalAt[to] = logical;
            }
        }
    }
}
