/** Promise 10: isDown. */
public final class IsDownTest {
    private static final Check CHECK = new Check("isDown");

    public static void main(String[] args) {
        LogDisk disk = new LogDisk(1, 32);
        CHECK.due("of a new object", false, disk.isDown());
        disk.crash(2);
        CHECK.due("with power for two blocks", false, disk.isDown());
        disk.append(0, 1020, 0);
        CHECK.due("when they were written", true, disk.isDown());
        CHECK.illegalState("a call while down", () -> disk.append(0, 10, 0));
        CHECK.due("behind a call that throws", true, disk.isDown());
        disk.recover();
        CHECK.due("behind recover()", false, disk.isDown());
        disk.crash(3);
        disk.append(0, 1020, 0);
        disk.crash(1);
        disk.retain(0, 0);
        CHECK.due("behind a cut of retain", true, disk.isDown());
        disk.recover();
        disk.append(0, 1020, 0);
        disk.crash(1);
        disk.thin(0, 1);
        CHECK.due("behind a cut of thin", true, disk.isDown());
        disk.recover();
        disk.crash(0);
        CHECK.due("behind crash(0)", true, disk.isDown());
        CHECK.end();
    }
}
