/** The terms' first paragraph: the disk, its blocks, logs, heads, segments and entries. */
public final class DiskTermsTest {
    private static final Check CHECK = new Check("the disk");

    public static void main(String[] args) {
        blocksOf1024();
        logs0To3();
        headsInFront();
        allOtherBlocks();
        blocksThatFollow();
        atMost60();
        lastIsOpen();
        eachWithinOne();
        takesFourMore();
        CHECK.end();
    }

    private static void blocksOf1024() {
        CHECK.sentence("THE DISK has blocks of 1024 bytes");
        int[][] bytesAndNextBlock = {{1019, 4}, {1020, 5}, {1021, 5}, {2043, 5}, {2044, 6}, {2045, 6}};
        for (int[] row : bytesAndNextBlock) {
            LogDisk disk = new LogDisk(3, 16);
            disk.append(0, row[0], 0);
            disk.append(0, 1, 0);
            CHECK.due("block behind an entry of " + row[0], row[1], disk.entry(0, 1, 1));
        }
    }

    private static void logs0To3() {
        CHECK.sentence("LOGS are 0 .. 3");
        for (int there = 0; there <= 3; there++) {
            LogDisk disk = new LogDisk(1, 16);
            CHECK.due("append to log " + there, 2, disk.append(there, 9, 7));
            for (int log = 0; log <= 3; log++) {
                CHECK.due("entries of log " + log, log == there ? 1 : 0, disk.log(log, 0));
            }
            CHECK.due("retain of log " + there, 0, disk.retain(there, 0));
            CHECK.due("thin of log " + there, 0, disk.thin(there, 1));
            CHECK.due("entry of log " + there, 9, disk.entry(there, 0, 0));
            CHECK.due("byteAt of log " + there, 7, disk.byteAt(there, 0, 0));
        }
        for (int none : new int[] {Integer.MIN_VALUE, -1, 4, 5, Integer.MAX_VALUE}) {
            noSuchLog(none);
        }
    }

    private static void noSuchLog(int none) {
        LogDisk disk = new LogDisk(1, 16);
        CHECK.illegalArgument("append to log " + none, () -> disk.append(none, 1, 0));
        CHECK.illegalArgument("retain of log " + none, () -> disk.retain(none, 0));
        CHECK.illegalArgument("thin of log " + none, () -> disk.thin(none, 1));
        CHECK.illegalArgument("log of log " + none, () -> disk.log(none, 0));
        CHECK.illegalArgument("entry of log " + none, () -> disk.entry(none, 0, 0));
        CHECK.illegalArgument("byteAt of log " + none, () -> disk.byteAt(none, 0, 0));
    }

    private static void headsInFront() {
        CHECK.sentence("blocks 0 .. 3 are their HEADS");
        for (int log = 0; log <= 3; log++) {
            LogDisk disk = new LogDisk(1, 16);
            disk.append(log, 1, 0);
            CHECK.due("block of the first entry in log " + log, 4, disk.entry(log, 0, 1));
        }
    }

    private static void allOtherBlocks() {
        CHECK.sentence("all others are for SEGMENTS");
        LogDisk smallest = new LogDisk(1, 16);
        for (int block = 4; block <= 15; block++) {
            smallest.append(0, 1020, 0);
            CHECK.due("block of the smallest disk", block, smallest.entry(0, block - 4, 1));
        }
        CHECK.due("behind the last block of the smallest", LogDisk.FULL, smallest.append(0, 1020, 0));
        LogDisk largest = new LogDisk(2, 256);
        for (int i = 0; i < 126; i++) {
            largest.append(i / 42, 2044, 0);
        }
        CHECK.due("last segment of the largest disk", 254, largest.entry(2, 41, 1));
        CHECK.due("behind the last block of the largest", LogDisk.FULL, largest.append(3, 1, 0));
        LogDisk one = new LogDisk(12, 16);
        CHECK.due("a segment of all others", 13, one.append(0, 12 * 1024 - 4, 0));
        CHECK.due("free() then", 0, one.free());
        LogDisk none = new LogDisk(13, 16);
        CHECK.due("a segment of one more than all others", LogDisk.FULL, none.append(0, 1, 0));
    }

    private static void blocksThatFollow() {
        CHECK.sentence("S blocks each that follow one another");
        LogDisk disk = new LogDisk(3, 16);
        for (int i = 0; i < 12; i++) {
            disk.append(0, 1020, 0);
            CHECK.due("block of entry " + i, 4 + i, disk.entry(0, i, 1));
            CHECK.due("segment of entry " + i, i / 3, disk.entry(0, i, 2));
        }
        LogDisk rest = new LogDisk(5, 18);
        rest.append(0, 5116, 0);
        rest.append(1, 5116, 0);
        CHECK.due("free() with one block too few for a third", 4, rest.free());
        CHECK.due("a third", LogDisk.FULL, rest.append(2, 1, 0));
        LogDisk enough = new LogDisk(5, 19);
        enough.append(0, 5116, 0);
        enough.append(1, 5116, 0);
        CHECK.due("a third where it just can lie", 2, enough.append(2, 1, 0));
    }

    private static void atMost60() {
        CHECK.sentence("A log has at most 60 segments, in a row");
        LogDisk disk = new LogDisk(1, 256);
        for (int i = 0; i < 60; i++) {
            CHECK.due("segment " + i, 2, disk.append(0, 1020, i));
            CHECK.due("segment of entry " + i, i, disk.entry(0, i, 2));
        }
        CHECK.due("a 61st", LogDisk.FULL, disk.append(0, 1020, 0));
        CHECK.due("segments", 60, disk.log(0, 1));
        CHECK.due("another log's first", 2, disk.append(1, 1020, 0));
        CHECK.due("retention of one", 1, disk.retain(0, 59 * 1024));
        CHECK.due("a 60th again", 2, disk.append(0, 1020, 0));
        CHECK.due("a 61st again", LogDisk.FULL, disk.append(0, 1020, 0));
    }

    private static void lastIsOpen() {
        CHECK.sentence("the last one is OPEN, others are CLOSED");
        LogDisk disk = new LogDisk(1, 16);
        disk.append(0, 1020, 0);
        CHECK.due("thinning of one full segment", 0, disk.thin(0, 1));
        CHECK.due("retention of one full segment", 0, disk.retain(0, 0));
        disk.append(0, 1, 1);
        disk.append(0, 1, 2);
        CHECK.due("thinning of two", 1, disk.thin(0, 1));
        CHECK.due("entries then", 2, disk.log(0, 0));
        disk.append(0, 1020, 3);
        CHECK.due("retention of two", 1, disk.retain(0, 0));
        CHECK.due("byte of what stays", 3, disk.byteAt(0, 0, 0));
    }

    private static void eachWithinOne() {
        CHECK.sentence("lie in its segments one behind the other, each within one");
        LogDisk disk = new LogDisk(2, 32);
        disk.append(0, 2000, 0);
        disk.append(0, 40, 0);
        CHECK.due("segment of what just fits behind", 0, disk.entry(0, 1, 2));
        CHECK.due("its block", 5, disk.entry(0, 1, 1));
        disk.append(0, 2000, 0);
        disk.append(0, 41, 0);
        CHECK.due("segment of what would reach over the end", 2, disk.entry(0, 3, 2));
        CHECK.due("its block", 8, disk.entry(0, 3, 1));
    }

    private static void takesFourMore() {
        CHECK.sentence("an entry of n bytes takes n + 4 there");
        for (int n : new int[] {1, 2, 1019, 1020, 1021, 16379, 16380}) {
            LogDisk disk = new LogDisk(16, 32);
            disk.append(0, n, 0);
            CHECK.due("bytes that an entry of " + n + " takes", n + 4, disk.log(0, 2));
            CHECK.due("bytes that an entry of " + n + " has", n, disk.entry(0, 0, 0));
        }
    }
}
