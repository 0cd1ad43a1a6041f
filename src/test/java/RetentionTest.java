/** The terms' third paragraph: retention. */
public final class RetentionTest {
    private static final Check CHECK = new Check("retention");

    public static void main(String[] args) {
        whileThereIsClosedOne();
        soManyBytesOrMore();
        asLongAs();
        theFirstGoes();
        theHeadIsWritten();
        CHECK.end();
    }

    /** Log 0 with a segment for each of these: one entry that takes so many bytes, which begin with 0, 1, .. */
    private static LogDisk segmentsThatTake(int... bytes) {
        LogDisk disk = new LogDisk(1, 64);
        for (int i = 0; i < bytes.length; i++) {
            disk.append(0, bytes[i] - 4, i);
        }
        return disk;
    }

    private static void whileThereIsClosedOne() {
        CHECK.sentence("as long as the log has a closed segment");
        CHECK.due("of an empty log to 0", 0, new LogDisk(1, 64).retain(0, 0));
        LogDisk open = segmentsThatTake(1000);
        CHECK.due("of an open segment to 0", 0, open.retain(0, 0));
        CHECK.due("entries then", 1, open.log(0, 0));
        LogDisk disk = segmentsThatTake(1000, 1000, 1000);
        CHECK.due("of two closed segments to 0", 2, disk.retain(0, 0));
        CHECK.due("segments then", 1, disk.log(0, 1));
        CHECK.due("byte of the open one", 2, disk.byteAt(0, 0, 0));
    }

    private static void soManyBytesOrMore() {
        CHECK.sentence("all entries but those of its first segment take b bytes or more");
        CHECK.due("to one more than they take", 0, segmentsThatTake(1000, 700).retain(0, 701));
        CHECK.due("to what they take", 1, segmentsThatTake(1000, 700).retain(0, 700));
        CHECK.due("to one less than they take", 1, segmentsThatTake(1000, 700).retain(0, 699));
        CHECK.due("to what all take", 0, segmentsThatTake(1000, 700).retain(0, 1700));
    }

    private static void asLongAs() {
        CHECK.sentence("as long as");
        int[][] bytesAndGone = {
            {3251, 0}, {3250, 1}, {2351, 1}, {2350, 2}, {1401, 2}, {1400, 3}, {801, 3}, {800, 4}, {1, 4}, {0, 4},
        };
        for (int[] row : bytesAndGone) {
            LogDisk disk = segmentsThatTake(1024, 900, 950, 600, 800);
            CHECK.due("to " + row[0], row[1], disk.retain(0, row[0]));
            CHECK.due("segments then", 5 - row[1], disk.log(0, 1));
            CHECK.due("once more to " + row[0], 0, disk.retain(0, row[0]));
        }
    }

    private static void theFirstGoes() {
        CHECK.sentence("the first segment goes");
        LogDisk disk = segmentsThatTake(1024, 900, 950, 600, 800);
        disk.append(1, 40, 99);
        CHECK.due("to 2350", 2, disk.retain(0, 2350));
        for (int i = 0; i < 3; i++) {
            CHECK.due("byte of entry " + i, 2 + i, disk.byteAt(0, i, 0));
            CHECK.due("segment of entry " + i, i, disk.entry(0, i, 2));
            CHECK.due("block of entry " + i, 6 + i, disk.entry(0, i, 1));
        }
        CHECK.due("bytes that stay", 2350, disk.log(0, 2));
        CHECK.due("entries that came", 5, disk.log(0, 3));
        CHECK.due("free()", 60 - 4, disk.free());
        CHECK.due("byte of another log", 99, disk.byteAt(1, 0, 0));
    }

    private static void theHeadIsWritten() {
        CHECK.sentence("If one went the head is written.");
        int[] bytesForGone = {3251, 3250, 2350, 1400, 800};
        for (int gone = 0; gone <= 4; gone++) {
            LogDisk disk = segmentsThatTake(1024, 900, 950, 600, 800);
            int writes = disk.writes();
            disk.crash(1);
            int want = gone == 0 ? 0 : LogDisk.CUT;
            CHECK.due("with power for one block, " + gone + " to go", want, disk.retain(0, bytesForGone[gone]));
            CHECK.due("writes() with " + gone + " to go", gone == 0 ? 0 : 1, disk.writes() - writes);
            CHECK.due("isDown() with " + gone + " to go", gone > 0, disk.isDown());
            CHECK.due("recover() with " + gone + " to go", 5 - gone, disk.recover());
        }
    }
}
