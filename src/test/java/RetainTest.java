/** Promise 3: retain. */
public final class RetainTest {
    private static final Check CHECK = new Check("retain");

    public static void main(String[] args) {
        letsGoWhileEnoughStays();
        keepsTheRestAsItWas();
        keepsTheOpenSegment();
        isCutThoughItIsThere();
        bytesBelow0();
        noSuchLog();
        whileDown();
        CHECK.end();
    }

    private static LogDisk fourSegmentsOf100() {
        LogDisk disk = new LogDisk(1, 32);
        for (int i = 0; i < 40; i++) {
            disk.append(1, 96, i);
        }
        return disk;
    }

    private static void letsGoWhileEnoughStays() {
        CHECK.sentence("Retention: how many segments went");
        int[][] bytesAndGone = {
            {Integer.MAX_VALUE, 0}, {3001, 0}, {3000, 1}, {2001, 1}, {2000, 2}, {1001, 2}, {1000, 3}, {1, 3}, {0, 3},
        };
        for (int[] row : bytesAndGone) {
            LogDisk disk = fourSegmentsOf100();
            String with = " with " + row[0];
            int writes = disk.writes();
            CHECK.due("retain" + with, row[1], disk.retain(1, row[0]));
            CHECK.due("segments" + with, 4 - row[1], disk.log(1, 1));
            CHECK.due("entries" + with, 40 - 10 * row[1], disk.log(1, 0));
            CHECK.due("bytes" + with, 4000 - 1000 * row[1], disk.log(1, 2));
            CHECK.due("came" + with, 40, disk.log(1, 3));
            CHECK.due("free()" + with, 24 + row[1], disk.free());
            CHECK.due("writes()" + with, row[1] == 0 ? 0 : 1, disk.writes() - writes);
            CHECK.due("again" + with, 0, disk.retain(1, row[0]));
        }
    }

    private static void keepsTheRestAsItWas() {
        CHECK.sentence("Retention");
        LogDisk disk = fourSegmentsOf100();
        disk.append(0, 10, 99);
        disk.retain(1, 1500);
        CHECK.due("byte of the first that stays", 20, disk.byteAt(1, 0, 0));
        CHECK.due("its segment", 0, disk.entry(1, 0, 2));
        CHECK.due("its block", 6, disk.entry(1, 0, 1));
        CHECK.due("segment of the last", 1, disk.entry(1, 19, 2));
        CHECK.due("block of the last", 7, disk.entry(1, 19, 1));
        CHECK.due("byte of the last", 39, disk.byteAt(1, 19, 0));
        CHECK.due("the other log", 1, disk.log(0, 0));
        CHECK.due("what comes then fits as before", 2, disk.append(1, 20, 0));
        CHECK.due("segments then", 2, disk.log(1, 1));
        disk.append(1, 1, 0);
        CHECK.due("what does not fit lies in front", 4, disk.entry(1, 21, 1));
    }

    private static void keepsTheOpenSegment() {
        CHECK.sentence("how many segments went");
        LogDisk disk = new LogDisk(1, 32);
        CHECK.due("an empty log", 0, disk.retain(0, 0));
        disk.append(0, 10, 0);
        CHECK.due("only an open segment", 0, disk.retain(0, 0));
        CHECK.due("entries", 1, disk.log(0, 0));
        CHECK.due("writes()", 2, disk.writes());
        disk.crash(1);
        CHECK.due("nothing to go before a crash", 0, disk.retain(0, 0));
        CHECK.due("isDown()", false, disk.isDown());
    }

    private static void isCutThoughItIsThere() {
        CHECK.sentence("CUT");
        LogDisk disk = fourSegmentsOf100();
        disk.crash(1);
        CHECK.due("with power for its head", LogDisk.CUT, disk.retain(1, 0));
        CHECK.due("isDown()", true, disk.isDown());
        CHECK.due("recover()", 10, disk.recover());
        CHECK.due("segments", 1, disk.log(1, 1));
        CHECK.due("first byte", 30, disk.byteAt(1, 0, 0));
    }

    private static void bytesBelow0() {
        CHECK.sentence("Illegal argument: bytes are below 0");
        LogDisk disk = fourSegmentsOf100();
        CHECK.illegalArgument("bytes -1", () -> disk.retain(1, -1));
        CHECK.illegalArgument("bytes MIN", () -> disk.retain(1, Integer.MIN_VALUE));
        CHECK.illegalArgument("bytes -1 of an empty log", () -> disk.retain(0, -1));
        CHECK.due("segments", 4, disk.log(1, 1));
        CHECK.due("bytes MAX", 0, disk.retain(1, Integer.MAX_VALUE));
        CHECK.due("bytes 0", 3, disk.retain(1, 0));
    }

    private static void noSuchLog() {
        CHECK.sentence("Illegal argument");
        LogDisk disk = fourSegmentsOf100();
        for (int log : new int[] {Integer.MIN_VALUE, -1, 4, Integer.MAX_VALUE}) {
            CHECK.illegalArgument("log " + log, () -> disk.retain(log, 0));
        }
        CHECK.due("recover()", 40, disk.recover());
    }

    private static void whileDown() {
        CHECK.sentence("illegal state");
        LogDisk disk = fourSegmentsOf100();
        disk.crash(0);
        CHECK.illegalState("while down", () -> disk.retain(1, 0));
        CHECK.illegalState("of an empty log while down", () -> disk.retain(0, 0));
        CHECK.illegalArgument("log 4 while down", () -> disk.retain(4, 0));
        CHECK.illegalArgument("bytes -1 while down", () -> disk.retain(1, -1));
        CHECK.due("recover()", 40, disk.recover());
    }
}
