/** Promise 11: writes. */
public final class WritesTest {
    private static final Check CHECK = new Check("writes");

    public static void main(String[] args) {
        LogDisk disk = new LogDisk(2, 32);
        CHECK.due("of a new object", 0, disk.writes());
        disk.append(0, 2044, 0);
        CHECK.due("behind two blocks and a head", 3, disk.writes());
        disk.append(0, 2045, 0);
        CHECK.due("behind LARGE", 3, disk.writes());
        disk.append(0, 700, 1);
        disk.append(0, 700, 2);
        disk.append(0, 700, 3);
        CHECK.due("behind three more", 10, disk.writes());
        disk.thin(0, 2);
        CHECK.due("behind a thinning to one block", 12, disk.writes());
        disk.thin(1, 2);
        disk.retain(1, 0);
        CHECK.due("behind calls that change nothing", 12, disk.writes());
        disk.retain(0, 0);
        CHECK.due("behind retention", 13, disk.writes());
        CHECK.illegalArgument("a call that throws", () -> disk.append(0, 0, 0));
        CHECK.due("behind a call that throws", 13, disk.writes());
        disk.crash(2);
        disk.append(1, 2044, 0);
        CHECK.due("while down", 15, disk.writes());
        disk.recover();
        CHECK.due("behind recover()", 15, disk.writes());
        CHECK.end();
    }
}
