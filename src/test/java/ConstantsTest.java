/** The constants: what they are, and what stands behind a call that answers them. */
public final class ConstantsTest {
    private static final Check CHECK = new Check("the constants");

    public static void main(String[] args) {
        theirValues();
        noneIsNoCrash();
        fullOnTheDisk();
        fullInTheLog();
        fullOfThinning();
        fullChangesNothing();
        cut();
        large();
        CHECK.end();
    }

    private static void theirValues() {
        CHECK.sentence("The constants");
        CHECK.due("NONE", -1, LogDisk.NONE);
        CHECK.due("FULL", -2, LogDisk.FULL);
        CHECK.due("CUT", -3, LogDisk.CUT);
        CHECK.due("LARGE", -5, LogDisk.LARGE);
    }

    private static void noneIsNoCrash() {
        CHECK.sentence("There is none.");
        LogDisk disk = new LogDisk(16, 256);
        disk.crash(LogDisk.NONE);
        for (int i = 0; i < 100; i++) {
            disk.append(0, 16380, 0);
            disk.retain(0, 0);
        }
        CHECK.due("writes()", 100 * 17 + 99, disk.writes());
        CHECK.due("isDown()", false, disk.isDown());
    }

    private static void fullOnTheDisk() {
        CHECK.sentence("There is no room for a new segment, on the disk");
        LogDisk disk = new LogDisk(2, 17);
        for (int i = 0; i < 6; i++) {
            CHECK.due("segment " + i, 3, disk.append(i % 4, 2000, 0));
        }
        for (int log = 0; log < 4; log++) {
            CHECK.due("a seventh, in log " + log, LogDisk.FULL, disk.append(log, 41, 0));
            CHECK.due("what needs no new one, in log " + log, 2, disk.append(log, 40, 0));
        }
    }

    private static void fullInTheLog() {
        CHECK.sentence("or in the log (it has 60)");
        LogDisk disk = new LogDisk(1, 256);
        for (int i = 0; i < 59; i++) {
            disk.append(0, 1020, 0);
        }
        CHECK.due("with 59", 2, disk.append(0, 1000, 0));
        CHECK.due("with 60", LogDisk.FULL, disk.append(0, 17, 0));
        CHECK.due("free()", 192, disk.free());
        CHECK.due("with 60, what needs no new one", 2, disk.append(0, 16, 0));
        CHECK.due("thinning, whose new ones come in place of old ones", 30, disk.thin(0, 2));
        CHECK.due("segments then", 30, disk.log(0, 1));
        CHECK.due("a new one then", 2, disk.append(0, 1020, 0));
    }

    private static void fullOfThinning() {
        CHECK.sentence("There is no room for a new segment");
        for (int others = 0; others <= 3; others++) {
            LogDisk disk = new LogDisk(1, 16);
            for (int i = 0; i < 7; i++) {
                disk.append(0, 1020, i);
            }
            for (int i = 0; i < others; i++) {
                disk.append(1, 1020, i);
            }
            int want = others == 0 ? 1 : LogDisk.FULL;
            CHECK.due("five into " + (5 - others), want, disk.thin(0, 6));
        }
        LogDisk none = new LogDisk(1, 16);
        for (int i = 0; i < 12; i++) {
            none.append(0, 1020, i);
        }
        CHECK.due("one into none", LogDisk.FULL, none.thin(0, 2));
        CHECK.due("none into none", 11, none.thin(0, 1));
    }

    private static void fullChangesNothing() {
        CHECK.sentence("nothing is changed or written");
        LogDisk disk = new LogDisk(1, 16);
        for (int i = 0; i < 10; i++) {
            disk.append(0, 1020, i);
        }
        disk.append(1, 1020, 50);
        String before = Picture.of(disk);
        CHECK.due("thin, first of whose new ones have room", LogDisk.FULL, disk.thin(0, 2));
        CHECK.due("behind thin", before, Picture.of(disk));
        disk.append(1, 1020, 51);
        before = Picture.of(disk);
        CHECK.due("append", LogDisk.FULL, disk.append(2, 1, 0));
        CHECK.due("behind append", before, Picture.of(disk));
        disk.crash(1);
        CHECK.due("append with power for 1", LogDisk.FULL, disk.append(2, 1, 0));
        CHECK.due("thin with power for 1", LogDisk.FULL, disk.thin(0, 2));
        CHECK.due("behind both", before, Picture.of(disk));
        CHECK.due("what writes one", LogDisk.CUT, disk.retain(0, 0));
    }

    private static void cut() {
        CHECK.sentence("The power failed.");
        LogDisk disk = new LogDisk(1, 16);
        disk.crash(2);
        CHECK.due("append of two blocks", LogDisk.CUT, disk.append(0, 1020, 0));
        disk.recover();
        disk.append(0, 1020, 0);
        disk.append(0, 1020, 0);
        disk.crash(1);
        CHECK.due("thin of two blocks", LogDisk.CUT, disk.thin(0, 2));
        disk.recover();
        disk.crash(1);
        CHECK.due("retain of one", LogDisk.CUT, disk.retain(0, 0));
    }

    private static void large() {
        CHECK.sentence("It takes more than a segment has.");
        for (int segment = 1; segment <= 16; segment++) {
            LogDisk disk = new LogDisk(segment, 64);
            int largest = 1024 * segment - 4;
            String before = Picture.of(disk);
            CHECK.due("one more than " + largest, LogDisk.LARGE, disk.append(0, largest + 1, 0));
            CHECK.due("behind it", before, Picture.of(disk));
            CHECK.due("of " + largest, segment + 1, disk.append(0, largest, 0));
        }
        LogDisk widest = new LogDisk(16, 256);
        CHECK.due("the largest that may be asked", LogDisk.LARGE, widest.append(0, 20000, 0));
        LogDisk full = new LogDisk(13, 16);
        CHECK.due("on a disk without room", LogDisk.LARGE, full.append(0, 13 * 1024 - 3, 0));
        CHECK.due("what is not too large there", LogDisk.FULL, full.append(0, 13 * 1024 - 4, 0));
    }
}
