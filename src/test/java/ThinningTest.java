/** The terms' fourth paragraph: thinning. */
public final class ThinningTest {
    private static final Check CHECK = new Check("thinning");

    public static void main(String[] args) {
        ofClosedSegments();
        thoseWithModuloZero();
        noneToGo();
        allOthersInTheirOrder();
        intoTheSameIfThereIsRoom();
        neverBackIntoOneBefore();
        blocksInNoSegmentBefore();
        blocksInNoneOfTheNew();
        segmentBySegmentThenHead();
        onlyTheHead();
        thenTheNewAreThere();
        theOpenOneStays();
        CHECK.end();
    }

    /** Entries with so many bytes in log 0, which begin with 0, 1, .. */
    private static LogDisk entriesOf(int segment, int blocks, int... bytes) {
        LogDisk disk = new LogDisk(segment, blocks);
        for (int i = 0; i < bytes.length; i++) {
            disk.append(0, bytes[i], i);
        }
        return disk;
    }

    /** The first bytes of a log's entries, which tell the entries apart. */
    private static String firstBytes(LogDisk disk, int log) {
        StringBuilder text = new StringBuilder();
        for (int i = 0; i < disk.log(log, 0); i++) {
            text.append(i == 0 ? "" : " ").append(disk.byteAt(log, i, 0));
        }
        return text.toString();
    }

    private static String ofAll(LogDisk disk, int what) {
        StringBuilder text = new StringBuilder();
        for (int i = 0; i < disk.log(0, 0); i++) {
            text.append(i == 0 ? "" : " ").append(disk.entry(0, i, what));
        }
        return text.toString();
    }

    private static void ofClosedSegments() {
        CHECK.sentence("of the entries of closed segments");
        LogDisk disk = entriesOf(1, 32, 500, 500, 500, 500, 200, 200);
        CHECK.due("by 1", 4, disk.thin(0, 1));
        CHECK.due("what stays by 1", "4 5", firstBytes(disk, 0));
    }

    private static void thoseWithModuloZero() {
        CHECK.sentence("(from the first one on: 0, 1, ..) those whose number modulo k is 0 go");
        String[] staysByK = {
            "8", "1 3 5 7 8", "1 2 4 5 7 8", "1 2 3 5 6 7 8", "1 2 3 4 6 7 8", "1 2 3 4 5 7 8", "1 2 3 4 5 6 8",
            "1 2 3 4 5 6 7 8", "1 2 3 4 5 6 7 8",
        };
        for (int k = 1; k <= 9; k++) {
            LogDisk disk = entriesOf(1, 32, 500, 500, 500, 500, 500, 500, 500, 500, 500);
            int gone = disk.thin(0, k);
            CHECK.due("what stays by " + k, staysByK[k - 1], firstBytes(disk, 0));
            CHECK.due("how many went by " + k, 9 - disk.log(0, 0), gone);
        }
        LogDisk again = entriesOf(1, 32, 500, 500, 500, 500, 500, 500, 500, 500, 500);
        again.thin(0, 2);
        again.thin(0, 2);
        CHECK.due("what stays by 2 and again by 2", "3 7 8", firstBytes(again, 0));
    }

    private static void noneToGo() {
        CHECK.sentence("If there are none, nothing is written.");
        for (int k : new int[] {1, 2, 1000}) {
            LogDisk empty = new LogDisk(1, 32);
            CHECK.due("of an empty log by " + k, 0, empty.thin(0, k));
            CHECK.due("writes() of it", 0, empty.writes());
            LogDisk open = entriesOf(1, 32, 100, 100, 804);
            open.crash(1);
            CHECK.due("of an open segment by " + k, 0, open.thin(0, k));
            CHECK.due("writes() of it", 6, open.writes());
            CHECK.due("isDown() of it", false, open.isDown());
            CHECK.due("entries of it", "0 1 2", firstBytes(open, 0));
        }
    }

    private static void allOthersInTheirOrder() {
        CHECK.sentence("All others of closed segments come into new segments, in their order");
        LogDisk disk = entriesOf(1, 32, 900, 10, 800, 20, 30, 700, 40, 50, 600, 900);
        CHECK.due("by 3", 3, disk.thin(0, 3));
        CHECK.due("what stays", "1 2 4 5 7 8 9", firstBytes(disk, 0));
        CHECK.due("their bytes", "10 800 30 700 50 600 900", ofAll(disk, 0));
    }

    private static void intoTheSameIfThereIsRoom() {
        CHECK.sentence("each into the same one as that before it if there is room, else a new one");
        LogDisk fits = entriesOf(1, 32, 1020, 500, 516, 1020);
        fits.thin(0, 1000);
        CHECK.due("what fills a segment to its last byte", "0 0 1", ofAll(fits, 2));
        LogDisk fitsAnew = entriesOf(1, 32, 1020, 500, 1020, 516, 1020);
        fitsAnew.thin(0, 2);
        CHECK.due("what comes to fill one to its last byte", "0 0 1", ofAll(fitsAnew, 2));
        LogDisk over = entriesOf(1, 32, 1020, 500, 1020, 517, 1020);
        over.thin(0, 2);
        CHECK.due("what is one byte too many", "0 1 2", ofAll(over, 2));
    }

    private static void neverBackIntoOneBefore() {
        CHECK.sentence("each into the same one as that before it");
        LogDisk disk = entriesOf(1, 32, 1020, 100, 1020, 1000, 10, 100, 1020);
        disk.thin(0, 2);
        CHECK.due("what stays", "1 3 5 6", firstBytes(disk, 0));
        CHECK.due("segments, with room left in the first", "0 1 2 3", ofAll(disk, 2));
    }

    private static void blocksInNoSegmentBefore() {
        CHECK.sentence("each new one as far in front as it can lie among blocks that were in no segment before");
        LogDisk disk = new LogDisk(2, 64);
        disk.append(1, 2044, 90);
        disk.append(0, 2044, 0);
        disk.append(1, 2044, 91);
        disk.append(0, 2044, 1);
        disk.append(0, 2044, 2);
        disk.append(0, 2044, 3);
        disk.append(1, 2044, 92);
        disk.append(0, 2044, 4);
        disk.retain(1, 0);
        CHECK.due("by 4", 1, disk.thin(0, 4));
        CHECK.due("blocks: two gaps, then behind all, then the open one", "4 8 20 18", ofAll(disk, 1));
        CHECK.due("of the other log", "92", firstBytes(disk, 1));
        LogDisk last = entriesOf(1, 16, 1020, 1020, 1020, 1020, 1020, 1020, 1020);
        CHECK.due("five into the last five", 1, last.thin(0, 6));
        CHECK.due("their blocks", "11 12 13 14 15 10", ofAll(last, 1));
        LogDisk few = entriesOf(1, 16, 1020, 1020, 1020, 1020, 1020, 1020, 1020, 1020);
        CHECK.due("six into the last four, though old ones go", LogDisk.FULL, few.thin(0, 7));
    }

    private static void blocksInNoneOfTheNew() {
        CHECK.sentence("and are in none of the new ones");
        LogDisk disk = entriesOf(3, 64, 3068, 3068, 3068, 3068, 1);
        disk.thin(0, 1000);
        CHECK.due("blocks", "19 22 25 16", ofAll(disk, 1));
        CHECK.due("free()", 60 - 12, disk.free());
    }

    private static void segmentBySegmentThenHead() {
        CHECK.sentence("The blocks are written in which what they take lies, segment by segment, then the head");
        int[][] bytesAndWritten = {
            {1, 2}, {1020, 2}, {1021, 3}, {2044, 3}, {2045, 4}, {3068, 4},
        };
        for (int[] row : bytesAndWritten) {
            LogDisk disk = entriesOf(3, 64, 3068, row[0], 3068, 3068);
            int writes = disk.writes();
            disk.thin(0, 2);
            CHECK.due("writes() for one of " + row[0], row[1], disk.writes() - writes);
        }
        LogDisk disk = entriesOf(3, 64, 3068, 500, 500, 500, 3068, 1021, 3068);
        int writes = disk.writes();
        disk.thin(0, 1000);
        CHECK.due("writes() for 2 + 3 + 2 blocks, each once", 8, disk.writes() - writes);
    }

    private static void onlyTheHead() {
        CHECK.sentence("The blocks are written in which what they take lies, .. then the head");
        LogDisk disk = entriesOf(3, 64, 3068, 3068, 10);
        int writes = disk.writes();
        CHECK.due("by 1", 2, disk.thin(0, 1));
        CHECK.due("writes()", 1, disk.writes() - writes);
        CHECK.due("segments", 1, disk.log(0, 1));
        CHECK.due("free()", 57, disk.free());
    }

    private static void thenTheNewAreThere() {
        CHECK.sentence("then the new ones are there in place of the old closed ones");
        for (int power = 1; power <= 8; power++) {
            LogDisk disk = entriesOf(3, 64, 3068, 500, 500, 500, 3068, 1021, 3068);
            String before = Picture.ofLogs(disk);
            disk.crash(power);
            disk.thin(0, 1000);
            CHECK.due("recover() with power for " + power + " of 8 blocks", power < 8 ? 7 : 6, disk.recover());
            CHECK.due("as before", power < 8, before.equals(Picture.ofLogs(disk)));
        }
        LogDisk disk = entriesOf(3, 64, 3068, 500, 500, 500, 3068, 1021, 3068);
        disk.thin(0, 1000);
        CHECK.due("blocks", "19 19 19 22 25 16", ofAll(disk, 1));
        CHECK.due("segments", "0 0 0 1 2 3", ofAll(disk, 2));
        CHECK.due("free()", 60 - 12, disk.free());
        disk.append(1, 1, 0);
        CHECK.due("a new segment where an old one was", 4, disk.entry(1, 0, 1));
    }

    private static void theOpenOneStays() {
        CHECK.sentence("the open one stays");
        LogDisk disk = entriesOf(1, 32, 1020, 100, 1020, 300, 300);
        disk.thin(0, 2);
        CHECK.due("segments, with room for the open one's in the new one", "0 1 1", ofAll(disk, 2));
        CHECK.due("blocks", "8 7 7", ofAll(disk, 1));
        CHECK.due("what comes then to its last byte", 2, disk.append(0, 412, 9));
        CHECK.due("segments then", "0 1 1 1", ofAll(disk, 2));
        disk.append(0, 1, 9);
        CHECK.due("segments behind that", 3, disk.log(0, 1));
    }
}
