/** Promise 6: entry. */
public final class EntryTest {
    private static final Check CHECK = new Check("entry");
    private static final int[][] BYTES_BLOCK_AND_SEGMENT = {
        {1019, 4, 0}, {1, 4, 0}, {1020, 5, 0}, {1, 6, 0}, {3068, 7, 1}, {1020, 10, 2}, {1020, 11, 2}, {1020, 12, 2},
        {1, 13, 3},
    };

    public static void main(String[] args) {
        howManyBytes();
        blockInWhichItBegins();
        whichSegment();
        ofEachLog();
        fromZero();
        whatIsNoneOfThese();
        noSuchLog();
        whileDown();
        CHECK.end();
    }

    private static LogDisk nineEntries() {
        LogDisk disk = new LogDisk(3, 64);
        for (int[] row : BYTES_BLOCK_AND_SEGMENT) {
            disk.append(3, row[0], 0);
        }
        return disk;
    }

    private static void ofAllNine(int what) {
        LogDisk disk = nineEntries();
        for (int i = 0; i < BYTES_BLOCK_AND_SEGMENT.length; i++) {
            CHECK.due("entry(3, " + i + ", " + what + ")", BYTES_BLOCK_AND_SEGMENT[i][what], disk.entry(3, i, what));
        }
    }

    private static void howManyBytes() {
        CHECK.sentence("what = 0 how many bytes it has");
        ofAllNine(0);
    }

    private static void blockInWhichItBegins() {
        CHECK.sentence("1 the block in which what it takes begins");
        ofAllNine(1);
        // The four bytes that an entry takes beside its own lie over the end of a block here.
        for (int rest = 0; rest <= 5; rest++) {
            LogDisk disk = new LogDisk(2, 16);
            disk.append(0, 1020 - rest, 0);
            disk.append(0, 500, 0);
            CHECK.due("with " + rest + " bytes left in a block", rest == 0 ? 5 : 4, disk.entry(0, 1, 1));
        }
    }

    private static void whichSegment() {
        CHECK.sentence("2 which segment (from 0) it is in");
        ofAllNine(2);
        LogDisk disk = nineEntries();
        disk.retain(3, 0);
        CHECK.due("when it is the only one", 0, disk.entry(3, 0, 2));
        LogDisk sixty = new LogDisk(1, 256);
        for (int i = 0; i < 60; i++) {
            sixty.append(0, 1020, 0);
        }
        CHECK.due("the last of sixty", 59, sixty.entry(0, 59, 2));
    }

    private static void ofEachLog() {
        CHECK.sentence("of a log");
        LogDisk disk = new LogDisk(2, 64);
        for (int log = 0; log < 4; log++) {
            disk.append(log, 10 + log, 0);
        }
        for (int log = 0; log < 4; log++) {
            CHECK.due("bytes in log " + log, 10 + log, disk.entry(log, 0, 0));
            CHECK.due("block in log " + log, 4 + 2 * log, disk.entry(log, 0, 1));
            CHECK.due("segment in log " + log, 0, disk.entry(log, 0, 2));
        }
    }

    private static void fromZero() {
        CHECK.sentence("Of entry i of a log (from 0)");
        LogDisk disk = new LogDisk(1, 16);
        CHECK.illegalArgument("entry 0 of none", () -> disk.entry(0, 0, 0));
        disk.append(0, 10, 0);
        CHECK.due("entry 0 of one", 10, disk.entry(0, 0, 0));
        CHECK.illegalArgument("entry 1 of one", () -> disk.entry(0, 1, 0));
        CHECK.illegalArgument("entry -1", () -> disk.entry(0, -1, 0));
        CHECK.illegalArgument("entry MIN", () -> disk.entry(0, Integer.MIN_VALUE, 0));
        CHECK.illegalArgument("entry MAX", () -> disk.entry(0, Integer.MAX_VALUE, 0));
    }

    private static void whatIsNoneOfThese() {
        CHECK.sentence("Illegal argument: also if what is none of these");
        LogDisk disk = nineEntries();
        for (int what : new int[] {Integer.MIN_VALUE, -1, 3, 4, Integer.MAX_VALUE}) {
            CHECK.illegalArgument("what " + what, () -> disk.entry(3, 0, what));
        }
    }

    private static void noSuchLog() {
        CHECK.sentence("Illegal argument");
        LogDisk disk = nineEntries();
        for (int log : new int[] {Integer.MIN_VALUE, -1, 4, Integer.MAX_VALUE}) {
            CHECK.illegalArgument("log " + log, () -> disk.entry(log, 0, 0));
        }
    }

    private static void whileDown() {
        CHECK.sentence("illegal state");
        LogDisk disk = nineEntries();
        disk.crash(0);
        for (int what = 0; what < 3; what++) {
            int asked = what;
            CHECK.illegalState("what " + what + " while down", () -> disk.entry(3, 0, asked));
        }
        CHECK.illegalState("no such entry while down", () -> disk.entry(3, 9, 0));
        CHECK.illegalState("entry -1 while down", () -> disk.entry(3, -1, 0));
        CHECK.illegalArgument("log 4 while down", () -> disk.entry(4, 0, 0));
        CHECK.illegalArgument("what -1 while down", () -> disk.entry(3, 0, -1));
        CHECK.illegalArgument("what 3 while down", () -> disk.entry(3, 0, 3));
    }
}
