/** Promise 6: entry. */
public final class EntryTest {
    private static final Check CHECK = new Check("entry");

    public static void main(String[] args) {
        tellsBytesBlockAndSegment();
        refusesWrongInput();
        CHECK.end();
    }

    private static void tellsBytesBlockAndSegment() {
        LogDisk disk = new LogDisk(3, 64);
        int[][] bytesBlockAndSegment = {
            {1019, 4, 0}, {1, 4, 0}, {1020, 5, 0}, {1, 6, 0}, {3068, 7, 1}, {1020, 10, 2}, {1020, 11, 2}, {1020, 12, 2},
            {1, 13, 3},
        };
        for (int[] row : bytesBlockAndSegment) {
            disk.append(3, row[0], 0);
        }
        for (int i = 0; i < bytesBlockAndSegment.length; i++) {
            for (int what = 0; what < 3; what++) {
                CHECK.due("entry(3, " + i + ", " + what + ")", bytesBlockAndSegment[i][what], disk.entry(3, i, what));
            }
        }
        disk.append(0, 10, 0);
        CHECK.due("block in another log", 16, disk.entry(0, 0, 1));
    }

    private static void refusesWrongInput() {
        LogDisk disk = new LogDisk(1, 16);
        CHECK.illegalArgument("entry 0 of none", () -> disk.entry(0, 0, 0));
        disk.append(0, 10, 0);
        CHECK.illegalArgument("log -1", () -> disk.entry(-1, 0, 0));
        CHECK.illegalArgument("log 4", () -> disk.entry(4, 0, 0));
        CHECK.illegalArgument("entry -1", () -> disk.entry(0, -1, 0));
        CHECK.illegalArgument("entry 1 of one", () -> disk.entry(0, 1, 0));
        CHECK.illegalArgument("entry MIN", () -> disk.entry(0, Integer.MIN_VALUE, 0));
        CHECK.illegalArgument("entry MAX", () -> disk.entry(0, Integer.MAX_VALUE, 0));
        CHECK.illegalArgument("what -1", () -> disk.entry(0, 0, -1));
        CHECK.illegalArgument("what 3", () -> disk.entry(0, 0, 3));
        disk.crash(0);
        CHECK.illegalState("while down", () -> disk.entry(0, 0, 0));
        CHECK.illegalState("no such entry while down", () -> disk.entry(0, 1, 0));
        CHECK.illegalState("entry -1 while down", () -> disk.entry(0, -1, 0));
        CHECK.illegalArgument("log 4 while down", () -> disk.entry(4, 0, 0));
        CHECK.illegalArgument("what 3 while down", () -> disk.entry(0, 0, 3));
    }
}
