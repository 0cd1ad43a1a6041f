/** The terms' fifth paragraph: power. */
public final class PowerTest {
    private static final Check CHECK = new Check("power");

    public static void main(String[] args) {
        whenSoManyWereWritten();
        onlyWhatIsWrittenCounts();
        whatWritesTheLastAnswersCut();
        justIfTheHeadWasWritten();
        theDiskIsDown();
        atAnyBlock();
        CHECK.end();
    }

    private static void whenSoManyWereWritten() {
        CHECK.sentence("crash(n) says that it fails when n more blocks were written.");
        for (int n = 1; n <= 9; n++) {
            LogDisk disk = new LogDisk(2, 64);
            disk.append(0, 10, 0);
            disk.crash(n);
            int calls = 0;
            while (!disk.isDown() && calls < 20) {
                disk.append(0, 10, 0);
                calls++;
            }
            CHECK.due("calls until crash(" + n + ")", (n + 1) / 2, calls);
            CHECK.due("writes() then", 2 + n, disk.writes());
        }
    }

    private static void onlyWhatIsWrittenCounts() {
        CHECK.sentence("n more blocks were written");
        LogDisk disk = new LogDisk(1, 16);
        for (int i = 0; i < 12; i++) {
            disk.append(0, 1020, 0);
        }
        disk.crash(1);
        CHECK.due("LARGE", LogDisk.LARGE, disk.append(0, 1021, 0));
        CHECK.due("FULL of append", LogDisk.FULL, disk.append(0, 1020, 0));
        CHECK.due("FULL of thin", LogDisk.FULL, disk.thin(0, 2));
        CHECK.due("retain of none", 0, disk.retain(0, 20000));
        CHECK.due("thin of none", 0, disk.thin(1, 1));
        CHECK.illegalArgument("what throws", () -> disk.append(0, 0, 0));
        CHECK.due("free()", 0, disk.free());
        CHECK.due("isDown()", false, disk.isDown());
        CHECK.due("retain of one", LogDisk.CUT, disk.retain(0, 11 * 1024));
    }

    private static void whatWritesTheLastAnswersCut() {
        CHECK.sentence("What writes the last of them answers CUT");
        for (int n = 1; n <= 5; n++) {
            LogDisk append = new LogDisk(3, 64);
            append.crash(n);
            CHECK.due("append of 4 with crash(" + n + ")", n <= 4 ? LogDisk.CUT : 4, append.append(0, 3000, 0));
            LogDisk thin = threeSegments();
            thin.crash(n);
            CHECK.due("thin of 4 with crash(" + n + ")", n <= 4 ? LogDisk.CUT : 1, thin.thin(0, 2));
            LogDisk retain = threeSegments();
            retain.crash(n);
            CHECK.due("retain of 1 with crash(" + n + ")", n <= 1 ? LogDisk.CUT : 2, retain.retain(0, 0));
        }
    }

    private static LogDisk threeSegments() {
        LogDisk disk = new LogDisk(3, 64);
        for (int i = 0; i < 3; i++) {
            disk.append(0, 3000, i);
        }
        return disk;
    }

    private static void justIfTheHeadWasWritten() {
        CHECK.sentence("and is there behind recovery just if its head was written");
        for (int n = 1; n <= 4; n++) {
            LogDisk append = new LogDisk(3, 64);
            append.crash(n);
            append.append(0, 3000, 0);
            CHECK.due("append with crash(" + n + ")", n == 4 ? 1 : 0, append.recover());
            LogDisk thin = threeSegments();
            thin.crash(n);
            thin.thin(0, 2);
            CHECK.due("thin with crash(" + n + ")", n == 4 ? 2 : 3, thin.recover());
        }
        LogDisk retain = threeSegments();
        retain.crash(1);
        retain.retain(0, 0);
        CHECK.due("retain with crash(1)", 1, retain.recover());
    }

    private static void theDiskIsDown() {
        CHECK.sentence("The disk is DOWN then.");
        LogDisk disk = threeSegments();
        disk.crash(4);
        CHECK.due("isDown() before", false, disk.isDown());
        disk.append(0, 3000, 0);
        CHECK.due("isDown() behind the last block, a head", true, disk.isDown());
        disk.recover();
        disk.crash(5);
        disk.append(0, 3000, 0);
        CHECK.due("isDown() with one block left", false, disk.isDown());
        disk.append(0, 3000, 0);
        CHECK.due("isDown() behind the last block, no head", true, disk.isDown());
    }

    /** A run in which all that writes is called, one call a number: whether there is such a call. */
    private static boolean step(LogDisk disk, int number) {
        switch (number) {
            case 3:
                disk.thin(0, 2);
                return true;
            case 7:
                disk.thin(0, 3);
                return true;
            case 9:
                disk.retain(1, 1000);
                return true;
            case 13:
                disk.thin(1, 1);
                return true;
            case 17:
                disk.retain(0, 0);
                return true;
            default:
                disk.append(number % 2, 700 + 97 * number % 1200, 10 * number);
                return number < 20;
        }
    }

    private static void atAnyBlock() {
        CHECK.sentence("a disk that may lose its power at any block: what was appended is there wholly or not at all");
        LogDisk whole = new LogDisk(2, 64);
        int block = 0;
        boolean more = true;
        for (int call = 0; more; call++) {
            String before = Picture.ofLogs(whole);
            more = step(whole, call);
            String behind = Picture.ofLogs(whole);
            while (block < whole.writes()) {
                block++;
                String want = block == whole.writes() ? behind : before;
                CHECK.due("with power for " + block, want, cutAt(block));
            }
        }
        CHECK.due("blocks of the whole run are many", true, block > 40);
    }

    private static String cutAt(int block) {
        LogDisk disk = new LogDisk(2, 64);
        disk.crash(block);
        for (int call = 0; !disk.isDown() && call < 100; call++) {
            step(disk, call);
        }
        disk.recover();
        return Picture.ofLogs(disk);
    }
}
