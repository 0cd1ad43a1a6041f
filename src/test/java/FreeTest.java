/** Promise 12: free. */
public final class FreeTest {
    private static final Check CHECK = new Check("free");

    public static void main(String[] args) {
        headsAreNone();
        blocksInNoSegment();
        noneAtAll();
        behindCut();
        whileDown();
        CHECK.end();
    }

    private static void headsAreNone() {
        CHECK.sentence("(heads are none of them)");
        CHECK.due("of 16 blocks", 12, new LogDisk(1, 16).free());
        CHECK.due("of 22 blocks", 18, new LogDisk(3, 22).free());
        CHECK.due("of 256 blocks", 252, new LogDisk(16, 256).free());
    }

    private static void blocksInNoSegment() {
        CHECK.sentence("How many blocks are in no segment");
        LogDisk disk = new LogDisk(3, 22);
        disk.append(0, 1, 0);
        CHECK.due("with one segment", 15, disk.free());
        disk.append(0, 3000, 0);
        CHECK.due("with the same segment", 15, disk.free());
        disk.append(0, 3000, 0);
        disk.append(3, 3000, 0);
        CHECK.due("with three segments", 9, disk.free());
        disk.retain(0, 0);
        CHECK.due("behind retention", 12, disk.free());
        disk.append(3, 3000, 0);
        CHECK.due("with three again", 9, disk.free());
        disk.thin(3, 1);
        CHECK.due("behind thinning", 12, disk.free());
    }

    private static void noneAtAll() {
        CHECK.sentence("How many blocks are in no segment");
        LogDisk disk = new LogDisk(3, 22);
        for (int i = 0; i < 6; i++) {
            disk.append(1, 3000, i);
        }
        CHECK.due("of a full disk", 0, disk.free());
        LogDisk rest = new LogDisk(5, 16);
        for (int log = 0; log < 3; log++) {
            rest.append(log, 5000, 0);
        }
        CHECK.due("that no segment can have", 2, rest.free());
        LogDisk all = new LogDisk(16, 16);
        CHECK.due("with segments larger than the disk", 12, all.free());
    }

    private static void behindCut() {
        CHECK.sentence("How many blocks are in no segment");
        for (int n = 1; n <= 4; n++) {
            LogDisk disk = new LogDisk(3, 22);
            disk.crash(n);
            disk.append(2, 3068, 0);
            disk.recover();
            CHECK.due("behind a cut at block " + n + " of 4", n < 4 ? 18 : 15, disk.free());
        }
    }

    private static void whileDown() {
        CHECK.sentence("Illegal state.");
        LogDisk disk = new LogDisk(3, 22);
        disk.crash(0);
        CHECK.illegalState("behind crash(0)", disk::free);
        disk.recover();
        CHECK.due("behind recover()", 18, disk.free());
        disk.crash(1);
        disk.append(0, 1, 0);
        CHECK.illegalState("behind a cut", disk::free);
    }
}
