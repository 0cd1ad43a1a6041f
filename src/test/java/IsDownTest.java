/** Promise 10: isDown. */
public final class IsDownTest {
    private static final Check CHECK = new Check("isDown");

    public static void main(String[] args) {
        itsPowerFailed();
        itsPowerFailedNot();
        recoverWasNotCalledSince();
        CHECK.end();
    }

    private static LogDisk twoSegments() {
        LogDisk disk = new LogDisk(1, 32);
        disk.append(0, 1020, 0);
        disk.append(0, 1020, 0);
        return disk;
    }

    private static void itsPowerFailed() {
        CHECK.sentence("Whether it is DOWN: its power failed");
        LogDisk atOnce = twoSegments();
        atOnce.crash(0);
        CHECK.due("behind crash(0)", true, atOnce.isDown());
        for (int n = 1; n <= 2; n++) {
            LogDisk append = twoSegments();
            append.crash(n);
            append.append(0, 1020, 0);
            CHECK.due("behind a cut of append at block " + n, true, append.isDown());
            LogDisk thin = twoSegments();
            thin.append(0, 1020, 0);
            thin.crash(n);
            thin.thin(0, 2);
            CHECK.due("behind a cut of thin at block " + n, true, thin.isDown());
        }
        LogDisk retain = twoSegments();
        retain.crash(1);
        retain.retain(0, 0);
        CHECK.due("behind a cut of retain", true, retain.isDown());
    }

    private static void itsPowerFailedNot() {
        CHECK.sentence("Whether it is DOWN");
        LogDisk disk = new LogDisk(1, 32);
        CHECK.due("of a new object", false, disk.isDown());
        disk.append(0, 1020, 0);
        CHECK.due("without crash()", false, disk.isDown());
        disk.crash(3);
        CHECK.due("with power for three blocks", false, disk.isDown());
        disk.append(0, 1020, 0);
        CHECK.due("with power for one block", false, disk.isDown());
        disk.append(0, 1021, 0);
        CHECK.due("behind LARGE", false, disk.isDown());
    }

    private static void recoverWasNotCalledSince() {
        CHECK.sentence("and recover() was not called since");
        LogDisk disk = twoSegments();
        disk.crash(0);
        CHECK.illegalState("a call while down", () -> disk.append(0, 10, 0));
        CHECK.illegalState("crash(NONE) while down", () -> disk.crash(LogDisk.NONE));
        CHECK.due("before recover()", true, disk.isDown());
        CHECK.due("asked again", true, disk.isDown());
        disk.recover();
        CHECK.due("behind recover()", false, disk.isDown());
        disk.crash(0);
        CHECK.due("when it fails again", true, disk.isDown());
    }
}
