/** Promise 1: a new object, and the bounds of its two numbers. */
public final class NewObjectTest {
    private static final Check CHECK = new Check("a new object");

    public static void main(String[] args) {
        isEmpty();
        blocksHaveBounds();
        segmentsHaveBounds();
        CHECK.end();
    }

    private static void isEmpty() {
        LogDisk disk = new LogDisk(3, 40);
        for (int log = 0; log < 4; log++) {
            for (int what = 0; what < 4; what++) {
                CHECK.due("log(" + log + ", " + what + ")", 0, disk.log(log, what));
            }
        }
        CHECK.due("isDown()", false, disk.isDown());
        CHECK.due("writes()", 0, disk.writes());
        CHECK.due("free()", 36, disk.free());
        CHECK.due("recover()", 0, disk.recover());
    }

    private static void blocksHaveBounds() {
        int[][] askedAndFree = {
            {Integer.MIN_VALUE, 12}, {-1, 12}, {0, 12}, {15, 12}, {16, 12}, {17, 13},
            {255, 251}, {256, 252}, {257, 252}, {Integer.MAX_VALUE, 252},
        };
        for (int[] row : askedAndFree) {
            CHECK.due("free() of " + row[0] + " blocks", row[1], new LogDisk(1, row[0]).free());
        }
    }

    private static void segmentsHaveBounds() {
        int[][] askedAndBlocks = {
            {Integer.MIN_VALUE, 1}, {-1, 1}, {0, 1}, {1, 1}, {2, 2},
            {15, 15}, {16, 16}, {17, 16}, {Integer.MAX_VALUE, 16},
        };
        for (int[] row : askedAndBlocks) {
            LogDisk disk = new LogDisk(row[0], 256);
            int largest = row[1] * 1024 - 4;
            String with = " with segments of " + row[0];
            CHECK.due("append one too large" + with, LogDisk.LARGE, disk.append(0, largest + 1, 0));
            CHECK.due("append the largest" + with, row[1] + 1, disk.append(0, largest, 0));
            CHECK.due("free()" + with, 252 - row[1], disk.free());
        }
    }
}
