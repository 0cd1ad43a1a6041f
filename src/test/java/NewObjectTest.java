/** Promise 1: a new object, and the bounds of its two numbers. */
public final class NewObjectTest {
    private static final Check CHECK = new Check("a new object");

    public static void main(String[] args) {
        isEmpty();
        segmentsBetween();
        segmentsBelow1();
        segmentsAbove16();
        blocksBetween();
        blocksBelow16();
        blocksAbove256();
        bothOutOfBounds();
        isOneOfItsOwn();
        CHECK.end();
    }

    private static void isEmpty() {
        CHECK.sentence("A new object");
        LogDisk disk = new LogDisk(3, 40);
        for (int log = 0; log < 4; log++) {
            for (int what = 0; what < 4; what++) {
                CHECK.due("log(" + log + ", " + what + ")", 0, disk.log(log, what));
            }
        }
        CHECK.due("isDown()", false, disk.isDown());
        CHECK.due("writes()", 0, disk.writes());
        CHECK.due("free()", 36, disk.free());
        CHECK.due("recover()", 0, disk.recover());
    }

    private static void segmentsAre(int asked, int due) {
        LogDisk disk = new LogDisk(asked, 256);
        int largest = due * 1024 - 4;
        String with = " with segments of " + asked;
        CHECK.due("append one too large" + with, LogDisk.LARGE, disk.append(0, largest + 1, 0));
        CHECK.due("append the largest" + with, due + 1, disk.append(0, largest, 0));
        CHECK.due("free()" + with, 252 - due, disk.free());
    }

    private static void segmentsBetween() {
        CHECK.sentence("Blocks in a segment");
        for (int segment = 1; segment <= 16; segment++) {
            segmentsAre(segment, segment);
        }
    }

    private static void segmentsBelow1() {
        CHECK.sentence("below 1 counts as 1");
        segmentsAre(0, 1);
        segmentsAre(-1, 1);
        segmentsAre(Integer.MIN_VALUE, 1);
    }

    private static void segmentsAbove16() {
        CHECK.sentence("above 16 as 16");
        segmentsAre(17, 16);
        segmentsAre(18, 16);
        segmentsAre(Integer.MAX_VALUE, 16);
    }

    private static void blocksAre(int asked, int due) {
        CHECK.due("free() of " + asked + " blocks", due - 4, new LogDisk(1, asked).free());
        LogDisk disk = new LogDisk(4, asked);
        int segments = 0;
        while (segments < 100 && disk.append(segments % 4, 4092, 0) != LogDisk.FULL) {
            segments++;
        }
        CHECK.due("segments of 4 on " + asked + " blocks", (due - 4) / 4, segments);
    }

    private static void blocksBetween() {
        CHECK.sentence("blocks of the disk");
        for (int blocks : new int[] {16, 17, 19, 20, 21, 100, 254, 255, 256}) {
            blocksAre(blocks, blocks);
        }
    }

    private static void blocksBelow16() {
        CHECK.sentence("below 16 counts as 16");
        for (int blocks : new int[] {15, 14, 4, 3, 1, 0, -1, Integer.MIN_VALUE}) {
            blocksAre(blocks, 16);
        }
    }

    private static void blocksAbove256() {
        CHECK.sentence("above 256 as 256");
        for (int blocks : new int[] {257, 260, 1000, Integer.MAX_VALUE}) {
            blocksAre(blocks, 256);
        }
    }

    private static void bothOutOfBounds() {
        CHECK.sentence("(below 1 counts as 1, above 16 as 16), .. (below 16 counts as 16, above 256 as 256)");
        LogDisk smallest = new LogDisk(-5, -5);
        CHECK.due("free() of the smallest", 12, smallest.free());
        CHECK.due("what fills a segment of it", 2, smallest.append(0, 1020, 0));
        LogDisk largest = new LogDisk(9999, 9999);
        CHECK.due("free() of the largest", 252, largest.free());
        CHECK.due("what fills a segment of it", 17, largest.append(0, 16380, 0));
        LogDisk wide = new LogDisk(17, 15);
        CHECK.due("where a segment is more than the disk has", LogDisk.FULL, wide.append(0, 1, 0));
        CHECK.due("free() there", 12, wide.free());
    }

    private static void isOneOfItsOwn() {
        CHECK.sentence("A new object");
        LogDisk first = new LogDisk(1, 16);
        LogDisk second = new LogDisk(1, 16);
        first.append(0, 10, 0);
        first.crash(0);
        CHECK.due("entries of another", 0, second.log(0, 0));
        CHECK.due("isDown() of another", false, second.isDown());
        CHECK.due("writes() of another", 0, second.writes());
        CHECK.due("free() of another", 12, second.free());
    }
}
