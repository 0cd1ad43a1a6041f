/** Promise 4: thin. */
public final class ThinTest {
    private static final Check CHECK = new Check("thin");

    public static void main(String[] args) {
        letsEveryKthGo();
        packsAnew();
        writesOnlyFilledBlocks();
        leavesEmptyAndOpenOnesAlone();
        liesBesideTheOldOnes();
        isFull();
        thinsLogOf60();
        isCut();
        kFrom1To1000();
        noSuchLog();
        whileDown();
        CHECK.end();
    }

    /** Log 0: three closed segments of three entries and an open one with two; bytes begin with 0, 1, .. */
    private static LogDisk elevenEntries(int blocks) {
        LogDisk disk = new LogDisk(1, blocks);
        for (int i = 0; i < 11; i++) {
            disk.append(0, 300, i);
        }
        return disk;
    }

    private static void letsEveryKthGo() {
        CHECK.sentence("Thinning: how many entries went");
        int[][] kGoneAndFirst = {{1, 9, 9}, {2, 5, 1}, {3, 3, 1}, {4, 3, 1}, {8, 2, 1}, {9, 1, 1}, {1000, 1, 1}};
        for (int[] row : kGoneAndFirst) {
            LogDisk disk = elevenEntries(40);
            String with = " by " + row[0];
            CHECK.due("thin" + with, row[1], disk.thin(0, row[0]));
            CHECK.due("entries" + with, 11 - row[1], disk.log(0, 0));
            CHECK.due("bytes" + with, 304 * (11 - row[1]), disk.log(0, 2));
            CHECK.due("came" + with, 11, disk.log(0, 3));
            CHECK.due("first" + with, row[2], disk.byteAt(0, 0, 0));
            CHECK.due("last" + with, 10, disk.byteAt(0, 10 - row[1], 0));
        }
        LogDisk disk = elevenEntries(40);
        disk.thin(0, 3);
        int[] stay = {1, 2, 4, 5, 7, 8, 9, 10};
        for (int i = 0; i < stay.length; i++) {
            CHECK.due("byte of entry " + i, stay[i], disk.byteAt(0, i, 0));
        }
    }

    private static void packsAnew() {
        CHECK.sentence("Thinning");
        LogDisk disk = elevenEntries(40);
        int writes = disk.writes();
        disk.thin(0, 4);
        CHECK.due("writes()", 3, disk.writes() - writes);
        CHECK.due("segments", 3, disk.log(0, 1));
        int[] blocks = {8, 8, 8, 9, 9, 9, 7, 7};
        int[] segments = {0, 0, 0, 1, 1, 1, 2, 2};
        for (int i = 0; i < blocks.length; i++) {
            CHECK.due("block of entry " + i, blocks[i], disk.entry(0, i, 1));
            CHECK.due("segment of entry " + i, segments[i], disk.entry(0, i, 2));
        }
        CHECK.due("free()", 33, disk.free());
        CHECK.due("the open one goes on", 2, disk.append(0, 300, 11));
        CHECK.due("segments then", 3, disk.log(0, 1));
        disk.thin(0, 1000);
        CHECK.due("next time in front", 4, disk.entry(0, 0, 1));
        disk.thin(0, 1);
        CHECK.due("free() with the open one alone", 35, disk.free());
    }

    private static void writesOnlyFilledBlocks() {
        CHECK.sentence("Thinning");
        LogDisk disk = new LogDisk(3, 64);
        int[] sizes = {10, 2044, 1020, 1020, 2044, 1020, 3068};
        for (int i = 0; i < sizes.length; i++) {
            disk.append(3, sizes[i], i);
        }
        int writes = disk.writes();
        CHECK.due("segments of three blocks", 1, disk.thin(3, 1000));
        CHECK.due("writes() of 3 + 3 + 1 blocks and a head", 8, disk.writes() - writes);
        CHECK.due("their segments and the open one", 4, disk.log(3, 1));
        writes = disk.writes();
        CHECK.due("again by 2", 3, disk.thin(3, 2));
        CHECK.due("writes() of 3 blocks and a head", 4, disk.writes() - writes);
        CHECK.due("one segment and the open one", 2, disk.log(3, 1));
    }

    private static void leavesEmptyAndOpenOnesAlone() {
        CHECK.sentence("how many entries went");
        LogDisk disk = new LogDisk(2, 40);
        CHECK.due("an empty log", 0, disk.thin(2, 1));
        disk.append(2, 100, 0);
        disk.append(2, 100, 1);
        disk.crash(1);
        CHECK.due("only an open segment", 0, disk.thin(2, 1));
        CHECK.due("isDown()", false, disk.isDown());
        CHECK.due("entries", 2, disk.log(2, 0));
        CHECK.due("writes()", 4, disk.writes());
    }

    private static void liesBesideTheOldOnes() {
        CHECK.sentence("Thinning");
        LogDisk disk = new LogDisk(1, 40);
        disk.append(1, 1020, 50);
        disk.append(0, 1020, 0);
        disk.append(1, 1020, 51);
        disk.append(0, 1020, 1);
        disk.append(0, 1020, 2);
        disk.append(0, 1020, 3);
        disk.retain(1, 0);
        disk.append(0, 1, 4);
        CHECK.due("thin(0, 2)", 2, disk.thin(0, 2));
        CHECK.due("first new one behind the open one in the gap", 10, disk.entry(0, 0, 1));
        CHECK.due("second new one", 11, disk.entry(0, 1, 1));
        CHECK.due("the open one", 4, disk.entry(0, 2, 1));
        CHECK.due("the other log", 51, disk.byteAt(1, 0, 0));
    }

    private static void isFull() {
        CHECK.sentence("FULL");
        LogDisk disk = new LogDisk(1, 16);
        for (int i = 0; i < 9; i++) {
            disk.append(0, 1020, i);
        }
        disk.crash(1);
        CHECK.due("four into three", LogDisk.FULL, disk.thin(0, 2));
        CHECK.due("isDown()", false, disk.isDown());
        disk.crash(LogDisk.NONE);
        CHECK.due("writes()", 18, disk.writes());
        CHECK.due("entries", 9, disk.log(0, 0));
        CHECK.due("segments", 9, disk.log(0, 1));
        CHECK.due("free()", 3, disk.free());
        CHECK.due("bytes", 0, disk.byteAt(0, 0, 0));
        CHECK.due("none into three", 8, disk.thin(0, 1));
        CHECK.due("free() then", 11, disk.free());
    }

    private static void thinsLogOf60() {
        CHECK.sentence("how many entries went");
        LogDisk disk = new LogDisk(1, 256);
        for (int i = 0; i < 60; i++) {
            disk.append(0, 1020, i);
        }
        CHECK.due("a log of 60 segments", 1, disk.thin(0, 1000));
        CHECK.due("segments", 59, disk.log(0, 1));
        CHECK.due("first block", 64, disk.entry(0, 0, 1));
        CHECK.due("last closed block", 121, disk.entry(0, 57, 1));
        CHECK.due("open block", 63, disk.entry(0, 58, 1));
    }

    private static void isCut() {
        CHECK.sentence("CUT");
        for (int power = 1; power <= 4; power++) {
            LogDisk disk = elevenEntries(40);
            int writes = disk.writes();
            boolean there = power >= 3;
            disk.crash(power);
            CHECK.due("with power for " + power, power <= 3 ? LogDisk.CUT : 3, disk.thin(0, 4));
            CHECK.due("isDown() with power for " + power, power <= 3, disk.isDown());
            CHECK.due("writes() with power for " + power, Math.min(power, 3), disk.writes() - writes);
            CHECK.due("recover() with power for " + power, there ? 8 : 11, disk.recover());
            CHECK.due("first byte with power for " + power, there ? 1 : 0, disk.byteAt(0, 0, 0));
            CHECK.due("first block with power for " + power, there ? 8 : 4, disk.entry(0, 0, 1));
            CHECK.due("free() with power for " + power, there ? 33 : 32, disk.free());
        }
    }

    private static void kFrom1To1000() {
        CHECK.sentence("Illegal argument: k is not 1 .. 1000");
        LogDisk disk = elevenEntries(40);
        for (int k : new int[] {Integer.MIN_VALUE, -1, 0, 1001, 1002, Integer.MAX_VALUE}) {
            CHECK.illegalArgument("k " + k, () -> disk.thin(0, k));
            CHECK.illegalArgument("k " + k + " of an empty log", () -> disk.thin(1, k));
        }
        CHECK.due("entries", 11, disk.log(0, 0));
        CHECK.due("k 1000", 1, disk.thin(0, 1000));
        CHECK.due("k 999", 1, disk.thin(0, 999));
        CHECK.due("k 1", 7, disk.thin(0, 1));
    }

    private static void noSuchLog() {
        CHECK.sentence("Illegal argument");
        LogDisk disk = elevenEntries(40);
        for (int log : new int[] {Integer.MIN_VALUE, -1, 4, Integer.MAX_VALUE}) {
            CHECK.illegalArgument("log " + log, () -> disk.thin(log, 1));
        }
        CHECK.due("recover()", 11, disk.recover());
    }

    private static void whileDown() {
        CHECK.sentence("illegal state");
        LogDisk disk = elevenEntries(40);
        disk.crash(0);
        CHECK.illegalState("while down", () -> disk.thin(0, 1));
        CHECK.illegalState("of an empty log while down", () -> disk.thin(1, 1));
        CHECK.illegalArgument("log 4 while down", () -> disk.thin(4, 1));
        CHECK.illegalArgument("k 0 while down", () -> disk.thin(0, 0));
        CHECK.illegalArgument("k 1001 while down", () -> disk.thin(0, 1001));
        CHECK.due("recover()", 11, disk.recover());
    }
}
