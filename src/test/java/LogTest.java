/** Promise 5: log. */
public final class LogTest {
    private static final Check CHECK = new Check("log");

    public static void main(String[] args) {
        tellsOfEachLog();
        howManyEntries();
        howManySegments();
        bytesThatEntriesTake();
        howManyEverCame();
        whatIsNoneOfThese();
        noSuchLog();
        whileDown();
        CHECK.end();
    }

    private static void tellsOfEachLog() {
        CHECK.sentence("Of a log");
        LogDisk disk = new LogDisk(1, 64);
        for (int log = 0; log < 4; log++) {
            for (int i = 0; i < 3 * log; i++) {
                disk.append(log, 400 + log, i);
            }
        }
        for (int log = 0; log < 4; log++) {
            int entries = 3 * log;
            CHECK.due("entries of " + log, entries, disk.log(log, 0));
            CHECK.due("segments of " + log, (entries + 1) / 2, disk.log(log, 1));
            CHECK.due("bytes of " + log, entries * (404 + log), disk.log(log, 2));
            CHECK.due("came to " + log, entries, disk.log(log, 3));
        }
    }

    /** Six entries that take 512 bytes each, two a segment. */
    private static LogDisk sixEntries() {
        LogDisk disk = new LogDisk(1, 16);
        for (int i = 0; i < 6; i++) {
            disk.append(2, 508, i);
        }
        return disk;
    }

    private static void due(LogDisk disk, int what, String when, int want) {
        CHECK.due("log(2, " + what + ") " + when, want, disk.log(2, what));
    }

    private static void eachChange(int what, int[] wants) {
        due(new LogDisk(1, 16), what, "of an empty log", 0);
        LogDisk disk = sixEntries();
        due(disk, what, "of six entries", wants[0]);
        disk.append(2, 1021, 0);
        due(disk, what, "behind LARGE", wants[0]);
        disk.thin(2, 2);
        due(disk, what, "behind thinning", wants[1]);
        disk.retain(2, 0);
        due(disk, what, "behind retention", wants[2]);
        disk.crash(1);
        disk.append(2, 96, 0);
        disk.recover();
        due(disk, what, "behind a cut before the head", wants[2]);
        disk.crash(2);
        disk.append(2, 96, 0);
        disk.recover();
        due(disk, what, "behind a cut at the head", wants[3]);
    }

    private static void howManyEntries() {
        CHECK.sentence("what = 0 how many entries");
        eachChange(0, new int[] {6, 4, 2, 3});
    }

    private static void howManySegments() {
        CHECK.sentence("1 segments");
        eachChange(1, new int[] {3, 2, 1, 2});
    }

    private static void bytesThatEntriesTake() {
        CHECK.sentence("2 bytes that entries take");
        eachChange(2, new int[] {3072, 2048, 1024, 1124});
    }

    private static void howManyEverCame() {
        CHECK.sentence("3 how many entries ever came");
        eachChange(3, new int[] {6, 6, 6, 7});
        LogDisk full = new LogDisk(1, 16);
        for (int i = 0; i < 20; i++) {
            full.append(2, 1020, i);
        }
        due(full, 3, "where only twelve had room", 12);
    }

    private static void whatIsNoneOfThese() {
        CHECK.sentence("Illegal argument: also if what is none of these");
        LogDisk disk = sixEntries();
        for (int what : new int[] {Integer.MIN_VALUE, -1, 4, 5, Integer.MAX_VALUE}) {
            CHECK.illegalArgument("what " + what, () -> disk.log(2, what));
        }
    }

    private static void noSuchLog() {
        CHECK.sentence("Illegal argument");
        LogDisk disk = sixEntries();
        for (int log : new int[] {Integer.MIN_VALUE, -1, 4, Integer.MAX_VALUE}) {
            for (int what = 0; what < 4; what++) {
                int asked = what;
                CHECK.illegalArgument("log(" + log + ", " + what + ")", () -> disk.log(log, asked));
            }
        }
    }

    private static void whileDown() {
        CHECK.sentence("illegal state");
        LogDisk disk = sixEntries();
        disk.crash(0);
        for (int what = 0; what < 4; what++) {
            int asked = what;
            CHECK.illegalState("while down", () -> disk.log(2, asked));
        }
        CHECK.illegalState("of an empty log while down", () -> disk.log(0, 0));
        CHECK.illegalArgument("log 4 while down", () -> disk.log(4, 0));
        CHECK.illegalArgument("what -1 while down", () -> disk.log(0, -1));
        CHECK.illegalArgument("what 4 while down", () -> disk.log(0, 4));
    }
}
