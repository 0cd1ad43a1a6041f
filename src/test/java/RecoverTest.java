/** Promise 9: recover. */
public final class RecoverTest {
    private static final Check CHECK = new Check("recover");

    public static void main(String[] args) {
        beginsAnewFromTheDisk();
        goesOnBehindCut();
        downOrNot();
        entriesInAllLogs();
        forgetsWhatCrashSaid();
        CHECK.end();
    }

    private static void beginsAnewFromTheDisk() {
        CHECK.sentence("Begins anew from the disk");
        LogDisk disk = new LogDisk(2, 64);
        for (int i = 0; i < 9; i++) {
            disk.append(1, 900, i);
        }
        disk.thin(1, 3);
        String before = Picture.of(disk);
        disk.recover();
        CHECK.due("while up", before, Picture.of(disk));
        disk.crash(0);
        disk.recover();
        CHECK.due("behind crash(0)", before, Picture.of(disk));
        disk.recover();
        CHECK.due("once more", before, Picture.of(disk));
        CHECK.due("came", 9, disk.log(1, 3));
    }

    private static void goesOnBehindCut() {
        CHECK.sentence("Begins anew from the disk");
        LogDisk disk = new LogDisk(2, 64);
        disk.append(0, 500, 1);
        disk.crash(2);
        CHECK.due("cut before the head", LogDisk.CUT, disk.append(0, 1000, 2));
        CHECK.due("entries", 1, disk.recover());
        disk.append(0, 400, 3);
        CHECK.due("byte of what came instead", 3, disk.byteAt(0, 1, 0));
        CHECK.due("byte of what was there", 1, disk.byteAt(0, 0, 0));
        CHECK.due("bytes", 908, disk.log(0, 2));
    }

    private static void downOrNot() {
        CHECK.sentence("DOWN or not");
        LogDisk disk = new LogDisk(1, 16);
        CHECK.due("of a new object", 0, disk.recover());
        disk.append(0, 10, 0);
        CHECK.due("while up", 1, disk.recover());
        CHECK.due("isDown() then", false, disk.isDown());
        disk.crash(0);
        CHECK.due("while down", 1, disk.recover());
        CHECK.due("isDown() then", false, disk.isDown());
        CHECK.due("append then", 2, disk.append(0, 10, 0));
        CHECK.due("writes() then", 4, disk.writes());
    }

    private static void entriesInAllLogs() {
        CHECK.sentence("how many entries there are in all logs");
        LogDisk disk = new LogDisk(1, 64);
        for (int log = 0; log < 4; log++) {
            for (int i = 0; i <= log; i++) {
                disk.append(log, 500, i);
            }
        }
        CHECK.due("of 1 + 2 + 3 + 4", 10, disk.recover());
        disk.retain(3, 0);
        CHECK.due("behind retention of two", 8, disk.recover());
        disk.thin(2, 2);
        CHECK.due("behind thinning of one", 7, disk.recover());
        for (int log = 0; log < 4; log++) {
            LogDisk one = new LogDisk(1, 16);
            one.append(log, 500, 0);
            CHECK.due("of one in log " + log, 1, one.recover());
        }
    }

    private static void forgetsWhatCrashSaid() {
        CHECK.sentence("What crash() said is forgotten.");
        LogDisk disk = new LogDisk(1, 64);
        disk.crash(1);
        disk.recover();
        CHECK.due("append behind it", 2, disk.append(0, 10, 0));
        disk.crash(3);
        disk.append(0, 10, 0);
        disk.recover();
        CHECK.due("append with one block left", 2, disk.append(0, 10, 0));
        disk.crash(1);
        disk.append(0, 10, 0);
        disk.recover();
        for (int i = 0; i < 20; i++) {
            CHECK.due("append behind a cut", 2, disk.append(0, 10, 0));
        }
        disk.crash(0);
        disk.recover();
        CHECK.due("append behind crash(0)", 2, disk.append(0, 10, 0));
    }
}
