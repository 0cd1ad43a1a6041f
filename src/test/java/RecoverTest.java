/** Promise 9: recover. */
public final class RecoverTest {
    private static final Check CHECK = new Check("recover");

    public static void main(String[] args) {
        countsEntriesOfAllLogs();
        forgetsTheCrash();
        changesNothing();
        goesOnBehindCut();
        CHECK.end();
    }

    private static void countsEntriesOfAllLogs() {
        LogDisk disk = new LogDisk(1, 64);
        CHECK.due("of a new object", 0, disk.recover());
        for (int log = 0; log < 4; log++) {
            for (int i = 0; i <= log; i++) {
                disk.append(log, 500, i);
            }
        }
        CHECK.due("while up", 10, disk.recover());
        disk.crash(0);
        CHECK.due("while down", 10, disk.recover());
        CHECK.due("isDown()", false, disk.isDown());
        disk.retain(3, 0);
        CHECK.due("behind retention", 8, disk.recover());
    }

    private static void forgetsTheCrash() {
        LogDisk disk = new LogDisk(1, 64);
        disk.crash(1);
        disk.recover();
        CHECK.due("append behind it", 2, disk.append(0, 10, 0));
        disk.crash(3);
        disk.append(0, 10, 0);
        disk.recover();
        CHECK.due("append with one block left", 2, disk.append(0, 10, 0));
        disk.crash(1);
        disk.append(0, 10, 0);
        disk.recover();
        CHECK.due("append behind a cut", 2, disk.append(0, 10, 0));
    }

    private static void changesNothing() {
        LogDisk disk = new LogDisk(2, 64);
        for (int i = 0; i < 9; i++) {
            disk.append(1, 900, i);
        }
        disk.thin(1, 3);
        int writes = disk.writes();
        int free = disk.free();
        int[] blocks = new int[disk.log(1, 0)];
        for (int i = 0; i < blocks.length; i++) {
            blocks[i] = disk.entry(1, i, 1);
        }
        disk.recover();
        CHECK.due("writes()", writes, disk.writes());
        CHECK.due("free()", free, disk.free());
        CHECK.due("came", 9, disk.log(1, 3));
        for (int i = 0; i < blocks.length; i++) {
            CHECK.due("block of entry " + i, blocks[i], disk.entry(1, i, 1));
        }
    }

    private static void goesOnBehindCut() {
        LogDisk disk = new LogDisk(2, 64);
        disk.append(0, 500, 1);
        disk.crash(2);
        CHECK.due("cut before the head", LogDisk.CUT, disk.append(0, 1000, 2));
        CHECK.due("entries", 1, disk.recover());
        disk.append(0, 400, 3);
        CHECK.due("byte of what came instead", 3, disk.byteAt(0, 1, 0));
        CHECK.due("byte of what was there", 1, disk.byteAt(0, 0, 0));
        CHECK.due("bytes", 908, disk.log(0, 2));
    }
}
