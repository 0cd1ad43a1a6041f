import java.util.Arrays;

/**
 * Four logs on a disk that may lose its power at any block.
 *
 * <p>A log is held as its head tells it. What a call is about to write is worked out beside that and
 * takes its place only when the head was written, so that nothing has to be undone when the power
 * fails before, and recovery finds the logs as they are.
 */
public final class LogDisk {
    public static final int NONE = -1;
    public static final int FULL = -2;
    public static final int CUT = -3;
    public static final int LARGE = -5;

    private static final int LOGS = 4;
    private static final int BLOCK_BYTES = 1024;
    private static final int MAX_SEGMENT_BLOCKS = 16;
    private static final int MIN_BLOCKS = 16;
    private static final int MAX_BLOCKS = 256;
    private static final int MAX_SEGMENTS = 60;
    private static final int MAX_ENTRY_BYTES = 20000;
    private static final int ENTRY_EXTRA_BYTES = 4;
    private static final int MAX_THINNING = 1000;
    private static final int MAX_BLOCKS_TO_CRASH = 1000;

    // An entry comes by a call of its own, and an object is used for no more calls than this.
    private static final int MAX_ENTRIES = 512;

    private static final int FREE = 0;
    private static final int TAKEN = 1;

    private final int segmentBlocks;
    private final Log[] logs = new Log[LOGS];
    // Worked out anew from the logs whenever it is asked, so it is never to be kept in step with them.
    private final int[] blockUse;
    private Log draft = new Log();
    private int blocksToCrash = NONE;
    private boolean down = false;
    private int blocksWritten = 0;

    public LogDisk(int segment, int blocks) {
        segmentBlocks = Math.max(1, Math.min(MAX_SEGMENT_BLOCKS, segment));
        blockUse = new int[Math.max(MIN_BLOCKS, Math.min(MAX_BLOCKS, blocks))];
        for (int i = 0; i < logs.length; i++) {
            logs[i] = new Log();
        }
    }

    public int append(int log, int n, int b) throws IllegalArgumentException, IllegalStateException {
        Log target = existingLog(log);
        requireWithin(n, 1, MAX_ENTRY_BYTES);
        requirePower();
        int takes = n + ENTRY_EXTRA_BYTES;
        if (takes > segmentBytes()) {
            return LARGE;
        }
        boolean fits = target.openHasRoom(takes, segmentBytes());
        int start = fits ? target.openStart() : startOfNewSegment(target);
        if (start == NONE || !target.canHoldMore()) {
            return FULL;
        }
        int offset = fits ? target.openBytes() : 0;
        int count = blocksTouched(offset, takes) + 1;
        if (writeThroughHead(count)) {
            if (!fits) {
                target.openSegment(start);
            }
            target.put(n, b);
            target.came++;
        }
        return down ? CUT : count;
    }

    public int retain(int log, int bytes) throws IllegalArgumentException, IllegalStateException {
        Log target = existingLog(log);
        requireWithin(bytes, 0, Integer.MAX_VALUE);
        requirePower();
        int gone = target.segmentsPast(bytes);
        if (gone == 0) {
            return 0;
        }
        draft.beginAs(target);
        draft.takeSegments(target, gone);
        if (writeThroughHead(1)) {
            putDraftInPlaceOf(log);
        }
        return down ? CUT : gone;
    }

    public int thin(int log, int k) throws IllegalArgumentException, IllegalStateException {
        Log target = existingLog(log);
        requireWithin(k, 1, MAX_THINNING);
        requirePower();
        int closedEntries = target.closedEntries();
        if (closedEntries == 0) {
            return 0;
        }
        if (!packThinned(target, closedEntries, k)) {
            return FULL;
        }
        int gone = closedEntries - draft.entries;
        int count = draft.blocksFilled() + 1;
        draft.takeSegments(target, target.segments - 1);
        if (writeThroughHead(count)) {
            putDraftInPlaceOf(log);
        }
        return down ? CUT : gone;
    }

    public int log(int log, int what) throws IllegalArgumentException, IllegalStateException {
        Log target = existingLog(log);
        requireWithin(what, 0, 3);
        requirePower();
        switch (what) {
            case 0:
                return target.entries;
            case 1:
                return target.segments;
            case 2:
                return target.bytesFrom(0);
            default:
                return target.came;
        }
    }

    public int entry(int log, int i, int what) throws IllegalArgumentException, IllegalStateException {
        Log target = existingLog(log);
        requireWithin(what, 0, 2);
        requirePower();
        requireWithin(i, 0, target.entries - 1);
        switch (what) {
            case 0:
                return at(target.sizes, i);
            case 1:
                return target.blockOf(i);
            default:
                return at(target.homes, i);
        }
    }

    public int byteAt(int log, int i, int k) throws IllegalArgumentException, IllegalStateException {
        Log target = existingLog(log);
        requirePower();
        requireWithin(i, 0, target.entries - 1);
        requireWithin(k, 0, at(target.sizes, i) - 1);
        return (at(target.firstBytes, i) + k) & 255;
    }

    public void crash(int n) throws IllegalArgumentException, IllegalStateException {
        requireWithin(n, NONE, MAX_BLOCKS_TO_CRASH);
        requirePower();
        blocksToCrash = n;
        down = n == 0;
    }

    public int recover() {
        blocksToCrash = NONE;
        down = false;
        int sum = 0;
        for (Log each : logs) {
            if (each != null) {
                sum += each.entries;
            }
        }
        return sum;
    }

    public boolean isDown() {
        return down;
    }

    public int writes() {
        return blocksWritten;
    }

    public int free() throws IllegalStateException {
        requirePower();
        markBlockUse();
        int count = 0;
        for (int use : blockUse) {
            if (use == FREE) {
                count++;
            }
        }
        return count;
    }

    private Log existingLog(int log) {
        Log found = log >= 0 && log < logs.length ? logs[log] : null;
        if (found == null) {
            throw new IllegalArgumentException("there is no such log");
        }
        return found;
    }

    private void requirePower() {
        if (down) {
            throw new IllegalStateException("the disk is down");
        }
    }

    private static void requireWithin(int number, int low, int high) {
        if (number < low || number > high) {
            throw new IllegalArgumentException("a number is out of its bounds");
        }
    }

    private int segmentBytes() {
        return segmentBlocks * BLOCK_BYTES;
    }

    private static int blocksTouched(int offset, int bytes) {
        return (offset + bytes - 1) / BLOCK_BYTES - offset / BLOCK_BYTES + 1;
    }

    /** Writes blocks of which the last is a head, as long as the power lasts: whether the head was. */
    private boolean writeThroughHead(int count) {
        if (blocksToCrash == NONE) {
            blocksWritten += count;
            return true;
        }
        int done = Math.min(count, blocksToCrash);
        blocksWritten += done;
        blocksToCrash -= done;
        down = blocksToCrash == 0;
        return done == count;
    }

    private void putDraftInPlaceOf(int log) {
        if (log >= 0 && log < logs.length && logs[log] != null) {
            Log old = logs[log];
            logs[log] = draft;
            draft = old;
        }
    }

    /** Packs into the draft what stays of the closed segments: whether there was room for it. */
    private boolean packThinned(Log target, int closedEntries, int k) {
        draft.beginAs(target);
        markBlockUse();
        for (int i = 0; i < closedEntries; i++) {
            if (!goes(i, k) && !packEntry(target, i)) {
                return false;
            }
        }
        return true;
    }

    private static boolean goes(int number, int k) {
        return k > 0 && number % k == 0;
    }

    private boolean packEntry(Log from, int i) {
        int bytes = at(from.sizes, i);
        if (!draft.openHasRoom(bytes + ENTRY_EXTRA_BYTES, segmentBytes())) {
            int start = firstFreeRun();
            if (start == NONE || !draft.canOpenMore()) {
                return false;
            }
            draft.openSegment(start);
            // The old segments still count until the head is written, so the new ones must not share a block.
            markSegment(start);
        }
        draft.put(bytes, at(from.firstBytes, i));
        return true;
    }

    private int startOfNewSegment(Log target) {
        if (!target.canOpenMore()) {
            return NONE;
        }
        markBlockUse();
        return firstFreeRun();
    }

    private int firstFreeRun() {
        int run = 0;
        for (int block = 0; block < blockUse.length; block++) {
            run = blockUse[block] == FREE ? run + 1 : 0;
            if (run == segmentBlocks) {
                return block - segmentBlocks + 1;
            }
        }
        return NONE;
    }

    private void markBlockUse() {
        Arrays.fill(blockUse, FREE);
        for (int head = 0; head < LOGS; head++) {
            set(blockUse, head, TAKEN);
        }
        for (Log each : logs) {
            if (each != null) {
                markSegmentsOf(each);
            }
        }
    }

    private void markSegmentsOf(Log each) {
        for (int segment = 0; segment < each.segments; segment++) {
            markSegment(at(each.starts, segment));
        }
    }

    private void markSegment(int start) {
        for (int i = 0; i < segmentBlocks; i++) {
            set(blockUse, start + i, TAKEN);
        }
    }

    // Every row is read and changed through these two, so that no index goes untested.
    private static int at(int[] row, int i) {
        return i >= 0 && i < row.length ? row[i] : 0;
    }

    private static void set(int[] row, int i, int value) {
        if (i >= 0 && i < row.length) {
            row[i] = value;
        }
    }

    /** A log as a head tells it: its segments, the last one open, and its entries in them. */
    private static final class Log {
        final int[] starts = new int[MAX_SEGMENTS];
        final int[] fills = new int[MAX_SEGMENTS];
        int segments = 0;

        final int[] sizes = new int[MAX_ENTRIES];
        final int[] firstBytes = new int[MAX_ENTRIES];
        final int[] homes = new int[MAX_ENTRIES];
        final int[] offsets = new int[MAX_ENTRIES];
        int entries = 0;
        int came = 0;

        void beginAs(Log old) {
            segments = 0;
            entries = 0;
            came = old.came;
        }

        boolean canOpenMore() {
            return segments < MAX_SEGMENTS;
        }

        boolean canHoldMore() {
            return entries < MAX_ENTRIES;
        }

        int openStart() {
            return at(starts, segments - 1);
        }

        int openBytes() {
            return at(fills, segments - 1);
        }

        boolean openHasRoom(int bytes, int segmentBytes) {
            return segments > 0 && openBytes() + bytes <= segmentBytes;
        }

        void openSegment(int start) {
            if (canOpenMore()) {
                set(starts, segments, start);
                set(fills, segments, 0);
                segments++;
            }
        }

        void put(int bytes, int firstByte) {
            if (segments > 0 && canHoldMore()) {
                set(sizes, entries, bytes);
                set(firstBytes, entries, firstByte);
                set(homes, entries, segments - 1);
                set(offsets, entries, openBytes());
                entries++;
                set(fills, segments - 1, openBytes() + bytes + ENTRY_EXTRA_BYTES);
            }
        }

        /** Takes over all segments of another log from one on, where they lie. */
        void takeSegments(Log from, int firstSegment) {
            int home = NONE;
            for (int i = 0; i < from.entries; i++) {
                int itsHome = at(from.homes, i);
                if (itsHome >= firstSegment) {
                    if (itsHome != home) {
                        openSegment(at(from.starts, itsHome));
                        home = itsHome;
                    }
                    put(at(from.sizes, i), at(from.firstBytes, i));
                }
            }
        }

        int blockOf(int i) {
            return at(starts, at(homes, i)) + at(offsets, i) / BLOCK_BYTES;
        }

        int closedEntries() {
            int count = 0;
            for (int i = 0; i < entries; i++) {
                if (at(homes, i) < segments - 1) {
                    count++;
                }
            }
            return count;
        }

        int bytesFrom(int firstSegment) {
            int sum = 0;
            for (int segment = firstSegment; segment < segments; segment++) {
                sum += at(fills, segment);
            }
            return sum;
        }

        /** How many segments retention lets go, from the first one on. */
        int segmentsPast(int bytes) {
            int gone = 0;
            while (gone < segments - 1 && bytesFrom(gone + 1) >= bytes) {
                gone++;
            }
            return gone;
        }

        int blocksFilled() {
            int count = 0;
            for (int segment = 0; segment < segments; segment++) {
                count += blocksTouched(0, at(fills, segment));
            }
            return count;
        }
    }
}
