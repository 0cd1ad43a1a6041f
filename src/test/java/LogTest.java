/** Promise 5: log. */
public final class LogTest {
    private static final Check CHECK = new Check("log");

    public static void main(String[] args) {
        tellsOfEachLog();
        countsOnlyWhatCame();
        refusesWrongInput();
        CHECK.end();
    }

    private static void tellsOfEachLog() {
        LogDisk disk = new LogDisk(1, 64);
        for (int log = 0; log < 4; log++) {
            for (int i = 0; i < 3 * log; i++) {
                disk.append(log, 400 + log, i);
            }
        }
        for (int log = 0; log < 4; log++) {
            int entries = 3 * log;
            CHECK.due("entries of " + log, entries, disk.log(log, 0));
            CHECK.due("segments of " + log, (entries + 1) / 2, disk.log(log, 1));
            CHECK.due("bytes of " + log, entries * (404 + log), disk.log(log, 2));
            CHECK.due("came to " + log, entries, disk.log(log, 3));
        }
    }

    private static void countsOnlyWhatCame() {
        LogDisk disk = new LogDisk(1, 16);
        for (int i = 0; i < 6; i++) {
            disk.append(2, 508, i);
        }
        disk.append(2, 1021, 0);
        disk.thin(2, 2);
        CHECK.due("came behind thinning", 6, disk.log(2, 3));
        disk.retain(2, 0);
        CHECK.due("came behind retention", 6, disk.log(2, 3));
        disk.crash(1);
        disk.append(2, 10, 0);
        disk.recover();
        CHECK.due("came behind a cut before the head", 6, disk.log(2, 3));
        disk.crash(2);
        disk.append(2, 10, 0);
        disk.recover();
        CHECK.due("came behind a cut at the head", 7, disk.log(2, 3));
        CHECK.due("entries", 3, disk.log(2, 0));
    }

    private static void refusesWrongInput() {
        LogDisk disk = new LogDisk(1, 16);
        CHECK.illegalArgument("log -1", () -> disk.log(-1, 0));
        CHECK.illegalArgument("log 4", () -> disk.log(4, 0));
        CHECK.illegalArgument("log MAX", () -> disk.log(Integer.MAX_VALUE, 0));
        CHECK.illegalArgument("what -1", () -> disk.log(0, -1));
        CHECK.illegalArgument("what 4", () -> disk.log(0, 4));
        disk.crash(0);
        for (int what = 0; what < 4; what++) {
            int asked = what;
            CHECK.illegalState("while down", () -> disk.log(0, asked));
        }
        CHECK.illegalArgument("log 4 while down", () -> disk.log(4, 0));
        CHECK.illegalArgument("what 4 while down", () -> disk.log(0, 4));
    }
}
