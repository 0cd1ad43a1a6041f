/** Promise 8: crash. */
public final class CrashTest {
    private static final Check CHECK = new Check("crash");

    public static void main(String[] args) {
        failsWhenSoManyWereWritten();
        failsAtTheFirst();
        failsAtTheFarthest();
        whateverWasSaidBefore();
        zeroFailsAtOnce();
        noneFailsNot();
        fromNoneTo1000();
        whileDown();
        CHECK.end();
    }

    private static void failsWhenSoManyWereWritten() {
        CHECK.sentence("The power will fail when n more blocks were written");
        LogDisk disk = new LogDisk(1, 16);
        disk.append(3, 10, 0);
        disk.crash(5);
        CHECK.due("blocks 1 and 2", 2, disk.append(0, 10, 0));
        CHECK.due("isDown() with 3 left", false, disk.isDown());
        CHECK.due("blocks 3 and 4", 2, disk.append(1, 10, 0));
        CHECK.due("isDown() with 1 left", false, disk.isDown());
        CHECK.due("block 5", LogDisk.CUT, disk.append(2, 10, 0));
        CHECK.due("isDown() with 0 left", true, disk.isDown());
        CHECK.due("writes()", 7, disk.writes());
    }

    private static void failsAtTheFirst() {
        CHECK.sentence("when n more blocks were written");
        LogDisk disk = new LogDisk(1, 16);
        disk.crash(1);
        CHECK.due("isDown() before a block", false, disk.isDown());
        CHECK.due("block 1", LogDisk.CUT, disk.append(0, 10, 0));
        CHECK.due("isDown()", true, disk.isDown());
        CHECK.due("writes()", 1, disk.writes());
    }

    private static void failsAtTheFarthest() {
        CHECK.sentence("when n more blocks were written");
        LogDisk disk = new LogDisk(16, 256);
        disk.crash(1000);
        for (int i = 0; i < 55; i++) {
            disk.append(0, 16380, i);
            disk.retain(0, 0);
        }
        CHECK.due("isDown() before the last block", false, disk.isDown());
        int left = 1000 - disk.writes();
        while (left > 2) {
            disk.append(1, 1, 0);
            left -= 2;
        }
        CHECK.due("what writes block 1000", LogDisk.CUT, disk.append(1, 1, 0));
        CHECK.due("writes()", 1000, disk.writes());
    }

    private static void whateverWasSaidBefore() {
        CHECK.sentence("whatever was said before");
        LogDisk disk = new LogDisk(1, 16);
        disk.crash(1);
        disk.crash(3);
        CHECK.due("with 3 said behind 1", 2, disk.append(0, 10, 0));
        disk.crash(3);
        CHECK.due("with 3 said behind 1 that is left", 2, disk.append(0, 10, 0));
        disk.crash(1000);
        disk.crash(1);
        CHECK.due("with 1 said behind 1000", LogDisk.CUT, disk.append(0, 10, 0));
        disk.recover();
        disk.crash(1000);
        disk.crash(0);
        CHECK.due("with 0 said behind 1000", true, disk.isDown());
        disk.recover();
        disk.crash(LogDisk.NONE);
        disk.crash(1);
        CHECK.due("with 1 said behind NONE", LogDisk.CUT, disk.append(0, 10, 0));
    }

    private static void zeroFailsAtOnce() {
        CHECK.sentence("with n = 0 it fails at once");
        LogDisk disk = new LogDisk(1, 16);
        disk.append(0, 10, 0);
        disk.crash(0);
        CHECK.due("isDown()", true, disk.isDown());
        CHECK.due("writes()", 2, disk.writes());
        CHECK.illegalState("append", () -> disk.append(0, 10, 0));
        CHECK.due("recover()", 1, disk.recover());
    }

    private static void noneFailsNot() {
        CHECK.sentence("with NONE it will not");
        LogDisk disk = new LogDisk(1, 16);
        disk.crash(1);
        disk.crash(LogDisk.NONE);
        CHECK.due("isDown()", false, disk.isDown());
        for (int i = 0; i < 70; i++) {
            CHECK.due("append " + i, 2, disk.append(0, 10, 0));
        }
        CHECK.due("isDown() then", false, disk.isDown());
    }

    private static void fromNoneTo1000() {
        CHECK.sentence("Illegal argument: n is not NONE .. 1000");
        LogDisk disk = new LogDisk(1, 16);
        disk.crash(2);
        for (int n : new int[] {Integer.MIN_VALUE, -3, -2, 1001, 1002, Integer.MAX_VALUE}) {
            CHECK.illegalArgument("n " + n, () -> disk.crash(n));
        }
        CHECK.due("what was said before still holds", LogDisk.CUT, disk.append(0, 1, 0));
        for (int n : new int[] {LogDisk.NONE, 0, 1, 999, 1000}) {
            disk.recover();
            disk.crash(n);
            CHECK.due("isDown() behind " + n, n == 0, disk.isDown());
        }
    }

    private static void whileDown() {
        CHECK.sentence("illegal state");
        LogDisk disk = new LogDisk(1, 16);
        disk.crash(0);
        for (int n : new int[] {LogDisk.NONE, 0, 1, 1000}) {
            CHECK.illegalState("n " + n + " while down", () -> disk.crash(n));
        }
        CHECK.illegalArgument("n -2 while down", () -> disk.crash(-2));
        CHECK.illegalArgument("n 1001 while down", () -> disk.crash(1001));
        CHECK.due("isDown()", true, disk.isDown());
    }
}
