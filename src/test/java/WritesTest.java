/** Promise 11: writes. */
public final class WritesTest {
    private static final Check CHECK = new Check("writes");

    public static void main(String[] args) {
        soFar();
        whatWritesNothing();
        downOrNot();
        CHECK.end();
    }

    private static void soFar() {
        CHECK.sentence("How many blocks were written so far.");
        LogDisk disk = new LogDisk(2, 32);
        CHECK.due("of a new object", 0, disk.writes());
        disk.append(0, 2044, 0);
        CHECK.due("behind two blocks and a head", 3, disk.writes());
        disk.append(0, 700, 1);
        disk.append(0, 700, 2);
        disk.append(0, 700, 3);
        CHECK.due("behind three more", 10, disk.writes());
        disk.thin(0, 2);
        CHECK.due("behind a thinning to one block", 12, disk.writes());
        disk.retain(0, 0);
        CHECK.due("behind retention", 13, disk.writes());
    }

    private static void whatWritesNothing() {
        CHECK.sentence("How many blocks were written");
        LogDisk disk = new LogDisk(12, 16);
        disk.append(0, 12 * 1024 - 4, 0);
        CHECK.due("LARGE", LogDisk.LARGE, disk.append(0, 12 * 1024 - 3, 0));
        CHECK.due("FULL", LogDisk.FULL, disk.append(0, 1, 0));
        disk.thin(0, 1);
        disk.retain(0, 0);
        disk.thin(1, 2);
        disk.retain(1, 0);
        CHECK.illegalArgument("a call that throws", () -> disk.append(0, 0, 0));
        disk.log(0, 0);
        disk.entry(0, 0, 0);
        disk.byteAt(0, 0, 0);
        disk.free();
        disk.crash(5);
        disk.recover();
        CHECK.due("behind all these", 13, disk.writes());
    }

    private static void downOrNot() {
        CHECK.sentence("so far");
        for (int n = 0; n <= 4; n++) {
            LogDisk disk = new LogDisk(3, 32);
            disk.append(0, 10, 0);
            disk.crash(n);
            if (n > 0) {
                disk.append(1, 3068, 0);
            }
            CHECK.due("while down behind crash(" + n + ")", 2 + n, disk.writes());
            disk.recover();
            CHECK.due("behind recover()", 2 + n, disk.writes());
            disk.append(0, 10, 0);
            CHECK.due("behind what comes then", 4 + n, disk.writes());
        }
    }
}
