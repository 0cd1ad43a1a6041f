/** Promise 8: crash. */
public final class CrashTest {
    private static final Check CHECK = new Check("crash");

    public static void main(String[] args) {
        failsAtOnce();
        failsWhenSoManyWereWritten();
        forgetsWhatWasSaidBefore();
        failsAtTheFarthest();
        refusesWrongInput();
        CHECK.end();
    }

    private static void failsAtOnce() {
        LogDisk disk = new LogDisk(1, 16);
        disk.crash(0);
        CHECK.due("isDown() behind crash(0)", true, disk.isDown());
        CHECK.due("writes()", 0, disk.writes());
    }

    private static void failsWhenSoManyWereWritten() {
        LogDisk disk = new LogDisk(1, 16);
        disk.crash(5);
        CHECK.due("blocks 1 and 2", 2, disk.append(0, 10, 0));
        CHECK.due("isDown() with 3 left", false, disk.isDown());
        CHECK.due("blocks 3 and 4", 2, disk.append(1, 10, 0));
        CHECK.due("isDown() with 1 left", false, disk.isDown());
        CHECK.due("block 5", LogDisk.CUT, disk.append(2, 10, 0));
        CHECK.due("isDown() with 0 left", true, disk.isDown());
        CHECK.due("writes()", 5, disk.writes());
    }

    private static void forgetsWhatWasSaidBefore() {
        LogDisk disk = new LogDisk(1, 16);
        disk.crash(1);
        disk.crash(3);
        CHECK.due("with 3 said last", 2, disk.append(0, 10, 0));
        disk.crash(LogDisk.NONE);
        CHECK.due("with NONE said last", 2, disk.append(0, 10, 0));
        disk.crash(1000);
        disk.crash(1);
        CHECK.due("with 1 said last", LogDisk.CUT, disk.append(0, 10, 0));
    }

    private static void failsAtTheFarthest() {
        LogDisk disk = new LogDisk(16, 256);
        disk.crash(1000);
        for (int i = 0; i < 55; i++) {
            disk.append(0, 16380, i);
            disk.retain(0, 0);
        }
        CHECK.due("isDown() before the last block", false, disk.isDown());
        int left = 1000 - disk.writes();
        while (left > 2) {
            disk.append(1, 1, 0);
            left -= 2;
        }
        CHECK.due("what writes block 1000", LogDisk.CUT, disk.append(1, 1, 0));
        CHECK.due("writes()", 1000, disk.writes());
    }

    private static void refusesWrongInput() {
        LogDisk disk = new LogDisk(1, 16);
        CHECK.illegalArgument("n -2", () -> disk.crash(-2));
        CHECK.illegalArgument("n MIN", () -> disk.crash(Integer.MIN_VALUE));
        CHECK.illegalArgument("n 1001", () -> disk.crash(1001));
        CHECK.illegalArgument("n MAX", () -> disk.crash(Integer.MAX_VALUE));
        disk.crash(2);
        CHECK.illegalArgument("n -2 behind crash(2)", () -> disk.crash(-2));
        CHECK.due("what was said still holds", LogDisk.CUT, disk.append(0, 1, 0));
        CHECK.illegalState("n 0 while down", () -> disk.crash(0));
        CHECK.illegalState("NONE while down", () -> disk.crash(LogDisk.NONE));
        CHECK.illegalState("n 1000 while down", () -> disk.crash(1000));
        CHECK.illegalArgument("n 1001 while down", () -> disk.crash(1001));
        CHECK.due("isDown()", true, disk.isDown());
    }
}
