/** Promise 2: append. */
public final class AppendTest {
    private static final Check CHECK = new Check("append");

    public static void main(String[] args) {
        countsBlocksWritten();
        liesBehindOrInNewSegment();
        fillsGapInFront();
        isLarge();
        isFullOnDisk();
        isFullInLog();
        diskTooSmallForSegment();
        isCut();
        lowestEightBits();
        bytesFrom1To20000();
        noSuchLog();
        whileDown();
        CHECK.end();
    }

    private static void countsBlocksWritten() {
        CHECK.sentence("how many blocks were written");
        LogDisk disk = new LogDisk(4, 64);
        CHECK.due("to the end of block 0", 2, disk.append(0, 1020, 0));
        CHECK.due("one byte over block 1", 3, disk.append(0, 1021, 0));
        CHECK.due("within block 2", 2, disk.append(0, 1, 0));
        CHECK.due("from block 2 to 3", 3, disk.append(0, 1020, 0));
        CHECK.due("three whole blocks", 4, disk.append(1, 3068, 0));
        CHECK.due("writes()", 14, disk.writes());
    }

    private static void liesBehindOrInNewSegment() {
        CHECK.sentence("comes into a log");
        LogDisk disk = new LogDisk(2, 64);
        disk.append(0, 1000, 0);
        disk.append(1, 10, 0);
        CHECK.due("that fills the segment to its last byte", 3, disk.append(0, 1040, 0));
        CHECK.due("segments when it just fits", 1, disk.log(0, 1));
        CHECK.due("the smallest behind a full one", 2, disk.append(0, 1, 0));
        CHECK.due("segments when it does not fit", 2, disk.log(0, 1));
        CHECK.due("its block", 8, disk.entry(0, 2, 1));
        CHECK.due("block of the other log", 6, disk.entry(1, 0, 1));
        disk.append(0, 2040, 0);
        CHECK.due("one byte too many for the rest", 3, disk.log(0, 1));
        disk.append(0, 1, 0);
        CHECK.due("does not go back to a closed one", 4, disk.log(0, 1));
    }

    private static void fillsGapInFront() {
        CHECK.sentence("comes into a log");
        LogDisk disk = new LogDisk(2, 16);
        for (int i = 0; i < 3; i++) {
            disk.append(0, 2044, i);
            disk.append(1, 2044, i);
        }
        CHECK.due("with no block left", LogDisk.FULL, disk.append(2, 1, 0));
        disk.retain(1, 1);
        CHECK.due("into a gap", 2, disk.append(2, 1, 0));
        CHECK.due("the first gap", 6, disk.entry(2, 0, 1));
        disk.append(3, 1, 0);
        CHECK.due("the second gap", 10, disk.entry(3, 0, 1));
    }

    private static void isLarge() {
        CHECK.sentence("LARGE");
        LogDisk disk = new LogDisk(1, 16);
        CHECK.due("1021 into 1024", LogDisk.LARGE, disk.append(0, 1021, 0));
        CHECK.due("20000 into 1024", LogDisk.LARGE, disk.append(0, 20000, 0));
        for (int i = 0; i < 12; i++) {
            disk.append(1, 1020, i);
        }
        CHECK.due("too large on a full disk", LogDisk.LARGE, disk.append(1, 1021, 0));
        disk.crash(1);
        CHECK.due("too large before a crash", LogDisk.LARGE, disk.append(1, 1021, 0));
        CHECK.due("isDown()", false, disk.isDown());
        CHECK.due("writes()", 24, disk.writes());
        CHECK.due("came to log 0", 0, disk.log(0, 3));
    }

    private static void isFullOnDisk() {
        CHECK.sentence("FULL");
        LogDisk disk = new LogDisk(5, 16);
        disk.append(0, 5116, 1);
        disk.append(1, 5000, 2);
        disk.crash(1);
        CHECK.due("with two blocks left", LogDisk.FULL, disk.append(0, 1, 3));
        CHECK.due("isDown() behind FULL", false, disk.isDown());
        disk.crash(LogDisk.NONE);
        CHECK.due("free()", 2, disk.free());
        CHECK.due("writes()", 12, disk.writes());
        CHECK.due("came", 1, disk.log(0, 3));
        CHECK.due("into the rest of an open segment", 2, disk.append(1, 112, 3));
        CHECK.due("behind the rest", LogDisk.FULL, disk.append(1, 1, 3));
    }

    private static void isFullInLog() {
        CHECK.sentence("FULL");
        LogDisk disk = new LogDisk(1, 256);
        for (int i = 0; i < 59; i++) {
            disk.append(3, 1020, i);
        }
        CHECK.due("the 60th segment", 2, disk.append(3, 1000, 0));
        CHECK.due("a 61st segment", LogDisk.FULL, disk.append(3, 17, 0));
        CHECK.due("within the 60th", 2, disk.append(3, 16, 0));
        CHECK.due("behind the 60th", LogDisk.FULL, disk.append(3, 1, 0));
        CHECK.due("into another log", 2, disk.append(2, 1, 0));
        CHECK.due("writes()", 124, disk.writes());
    }

    private static void diskTooSmallForSegment() {
        CHECK.sentence("LARGE, FULL");
        LogDisk disk = new LogDisk(13, 16);
        CHECK.due("where no segment can lie", LogDisk.FULL, disk.append(0, 1, 0));
        CHECK.due("a large one there", LogDisk.LARGE, disk.append(0, 20000, 0));
    }

    private static void isCut() {
        CHECK.sentence("CUT");
        for (int power = 1; power <= 4; power++) {
            LogDisk disk = new LogDisk(3, 32);
            disk.append(0, 1000, 7);
            disk.crash(power);
            int want = power <= 3 ? LogDisk.CUT : 3;
            CHECK.due("with power for " + power, want, disk.append(0, 1000, 8));
            CHECK.due("isDown() with power for " + power, power <= 3, disk.isDown());
            CHECK.due("writes() with power for " + power, 2 + Math.min(power, 3), disk.writes());
            CHECK.due("recover() with power for " + power, power >= 3 ? 2 : 1, disk.recover());
            CHECK.due("came with power for " + power, power >= 3 ? 2 : 1, disk.log(0, 3));
            CHECK.due("old byte with power for " + power, 7, disk.byteAt(0, 0, 0));
        }
        LogDisk disk = new LogDisk(3, 32);
        disk.crash(1);
        CHECK.due("into a new segment", LogDisk.CUT, disk.append(0, 1, 8));
        disk.recover();
        CHECK.due("segments behind a cut", 0, disk.log(0, 1));
        CHECK.due("free() behind a cut", 28, disk.free());
    }

    private static void lowestEightBits() {
        CHECK.sentence("An entry of n bytes, b, b + 1, and so on (their lowest eight bits)");
        int[] firsts = {0, 1, 254, 255, 256, 257, -1, -2, -256, -257, Integer.MAX_VALUE, Integer.MIN_VALUE};
        for (int b : firsts) {
            LogDisk disk = new LogDisk(1, 16);
            disk.append(0, 600, b);
            for (int k = 0; k < 600; k++) {
                CHECK.due("byte " + k + " from " + b, Math.floorMod((long) b + k, 256L), disk.byteAt(0, 0, k));
            }
        }
    }

    private static void bytesFrom1To20000() {
        CHECK.sentence("Illegal argument: n is not 1 .. 20000");
        LogDisk disk = new LogDisk(16, 256);
        for (int n : new int[] {Integer.MIN_VALUE, -1, 0, 20001, 20002, Integer.MAX_VALUE - 3, Integer.MAX_VALUE}) {
            CHECK.illegalArgument("n " + n, () -> disk.append(0, n, 0));
        }
        CHECK.due("n 1", 2, disk.append(0, 1, 0));
        CHECK.due("n 2", 2, disk.append(0, 2, 0));
        CHECK.due("n 16380", 17, disk.append(0, 16380, 0));
        CHECK.due("n 16381", LogDisk.LARGE, disk.append(0, 16381, 0));
        CHECK.due("n 19999", LogDisk.LARGE, disk.append(0, 19999, 0));
        CHECK.due("n 20000", LogDisk.LARGE, disk.append(0, 20000, 0));
        LogDisk narrow = new LogDisk(1, 16);
        CHECK.illegalArgument("n 20001 where 1021 is too large", () -> narrow.append(0, 20001, 0));
    }

    private static void noSuchLog() {
        CHECK.sentence("Illegal argument");
        LogDisk disk = new LogDisk(16, 256);
        for (int log : new int[] {Integer.MIN_VALUE, -1, 4, Integer.MAX_VALUE}) {
            CHECK.illegalArgument("log " + log, () -> disk.append(log, 1, 0));
            CHECK.illegalArgument("log " + log + " with what is too large", () -> disk.append(log, 20000, 0));
        }
        CHECK.due("writes()", 0, disk.writes());
    }

    private static void whileDown() {
        CHECK.sentence("illegal state");
        LogDisk disk = new LogDisk(16, 256);
        disk.append(0, 1, 0);
        disk.crash(0);
        CHECK.illegalState("while down", () -> disk.append(0, 1, 0));
        CHECK.illegalState("a large one while down", () -> disk.append(0, 20000, 0));
        CHECK.illegalArgument("log 4 while down", () -> disk.append(4, 1, 0));
        CHECK.illegalArgument("n 0 while down", () -> disk.append(0, 0, 0));
        CHECK.illegalArgument("n 20001 while down", () -> disk.append(0, 20001, 0));
        CHECK.due("writes()", 2, disk.writes());
        CHECK.due("recover()", 1, disk.recover());
    }
}
