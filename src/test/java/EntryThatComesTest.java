/** The terms' second paragraph: an entry that comes. */
public final class EntryThatComesTest {
    private static final Check CHECK = new Check("an entry that comes");

    public static void main(String[] args) {
        behindIfThereIsRoom();
        elseInNewOne();
        firstOfAll();
        farInFront();
        inNoSegmentOfAnyLog();
        blocksThenHead();
        thenItIsThere();
        CHECK.end();
    }

    private static void behindIfThereIsRoom() {
        CHECK.sentence("lies behind those in the open segment if there is room for it");
        int[][] segmentsBytesAndWhere = {{1, 19, 0}, {1, 20, 0}, {1, 21, 1}, {3, 2067, 0}, {3, 2068, 0}, {3, 2069, 1}};
        for (int[] row : segmentsBytesAndWhere) {
            LogDisk disk = new LogDisk(row[0], 32);
            disk.append(0, 996, 0);
            disk.append(0, row[1], 0);
            String of = row[1] + " behind 996 in segments of " + row[0];
            CHECK.due("segment of " + of, row[2], disk.entry(0, 1, 2));
            CHECK.due("block of " + of, row[2] == 0 ? 4 : 4 + row[0], disk.entry(0, 1, 1));
            CHECK.due("segments with " + of, row[2] + 1, disk.log(0, 1));
        }
    }

    private static void elseInNewOne() {
        CHECK.sentence("else in a new one, which is the open one then");
        LogDisk disk = new LogDisk(1, 32);
        disk.append(0, 10, 0);
        disk.append(0, 1020, 1);
        disk.append(0, 1, 2);
        CHECK.due("segment of what does not fit", 1, disk.entry(0, 1, 2));
        CHECK.due("segment of what would fit in the closed one", 2, disk.entry(0, 2, 2));
        CHECK.due("and of thinning", 2, disk.thin(0, 1));
        CHECK.due("the open one alone stays", 2, disk.byteAt(0, 0, 0));
    }

    private static void firstOfAll() {
        CHECK.sentence("else in a new one");
        LogDisk disk = new LogDisk(2, 32);
        CHECK.due("segments of an empty log", 0, disk.log(1, 1));
        disk.append(1, 1, 0);
        CHECK.due("segments with its first entry", 1, disk.log(1, 1));
        CHECK.due("segment of it", 0, disk.entry(1, 0, 2));
        CHECK.due("block of it", 4, disk.entry(1, 0, 1));
    }

    private static void farInFront() {
        CHECK.sentence("as far in front as it can lie");
        LogDisk disk = new LogDisk(3, 64);
        for (int i = 0; i < 6; i++) {
            disk.append(i % 2, 3068, i);
        }
        disk.retain(1, 0);
        disk.append(2, 3068, 0);
        CHECK.due("in the first gap", 7, disk.entry(2, 0, 1));
        disk.append(2, 3068, 0);
        CHECK.due("in the second gap", 13, disk.entry(2, 1, 1));
        disk.append(2, 3068, 0);
        CHECK.due("behind all when there is no gap", 22, disk.entry(2, 2, 1));
        disk.retain(0, 0);
        disk.append(2, 3068, 0);
        CHECK.due("right behind the heads", 4, disk.entry(2, 3, 1));
    }

    private static void inNoSegmentOfAnyLog() {
        CHECK.sentence("among blocks that are in no segment (of any log)");
        LogDisk disk = new LogDisk(2, 64);
        int[] logs = {3, 0, 2, 1, 1, 2, 0, 3};
        int[] seen = new int[4];
        for (int i = 0; i < logs.length; i++) {
            disk.append(logs[i], 2044, 10 * i);
            CHECK.due("block of segment " + i, 4 + 2 * i, disk.entry(logs[i], seen[logs[i]]++, 1));
        }
        CHECK.due("free()", 60 - 16, disk.free());
    }

    private static void blocksThenHead() {
        CHECK.sentence("The blocks are written in which what it takes lies, in their order, then the log's head");
        int[][] beforeBytesAndWritten = {
            {1, 1, 2}, {1, 1015, 2}, {1, 1016, 3}, {1019, 1, 3}, {1020, 1, 2}, {1020, 1020, 2}, {1020, 1021, 3},
            {1019, 1020, 3}, {1019, 1021, 3}, {1019, 1022, 4}, {1, 3063, 4}, {1, 3064, 5}, {3063, 1, 2}, {3064, 1, 3},
            {3068, 1, 2},
        };
        for (int[] row : beforeBytesAndWritten) {
            LogDisk disk = new LogDisk(4, 64);
            disk.append(0, row[0], 0);
            String of = row[1] + " behind " + row[0];
            int writes = disk.writes();
            CHECK.due(of, row[2], disk.append(0, row[1], 0));
            CHECK.due("writes() for " + of, row[2], disk.writes() - writes);
        }
    }

    private static void thenItIsThere() {
        CHECK.sentence("then it is there");
        for (boolean inNewOne : new boolean[] {false, true}) {
            for (int power = 1; power <= 3; power++) {
                LogDisk disk = new LogDisk(2, 32);
                disk.append(0, inNewOne ? 2000 : 1000, 5);
                String before = Picture.ofLogs(disk);
                disk.crash(power);
                disk.append(0, inNewOne ? 1030 : 1000, 6);
                disk.recover();
                String with = " with power for " + power + " of 3 blocks";
                CHECK.due("entries" + with, power == 3 ? 2 : 1, disk.log(0, 0));
                CHECK.due("as before" + with, power < 3, before.equals(Picture.ofLogs(disk)));
            }
        }
    }
}
