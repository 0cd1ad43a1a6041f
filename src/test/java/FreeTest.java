/** Promise 12: free. */
public final class FreeTest {
    private static final Check CHECK = new Check("free");

    public static void main(String[] args) {
        LogDisk disk = new LogDisk(3, 22);
        CHECK.due("of a new object", 18, disk.free());
        disk.append(0, 1, 0);
        CHECK.due("with one segment", 15, disk.free());
        disk.append(0, 3000, 0);
        CHECK.due("with the same segment", 15, disk.free());
        disk.append(0, 3000, 0);
        disk.append(3, 3000, 0);
        CHECK.due("with three segments", 9, disk.free());
        disk.crash(1);
        disk.append(2, 3000, 0);
        CHECK.illegalState("while down", disk::free);
        disk.recover();
        CHECK.due("behind a cut before the head", 9, disk.free());
        disk.retain(0, 0);
        CHECK.due("behind retention", 12, disk.free());
        disk.append(3, 3000, 0);
        disk.thin(3, 1);
        CHECK.due("behind thinning", 12, disk.free());
        for (int i = 0; i < 4; i++) {
            disk.append(1, 3000, i);
        }
        CHECK.due("of a full disk", 0, disk.free());
        CHECK.due("a new segment then", LogDisk.FULL, disk.append(1, 3000, 0));
        CHECK.due("blocks that no segment can have", 2, restOfDisk());
        CHECK.end();
    }

    private static int restOfDisk() {
        LogDisk disk = new LogDisk(5, 16);
        disk.append(0, 5000, 0);
        disk.append(1, 5000, 0);
        disk.append(2, 5000, 0);
        return disk.free();
    }
}
