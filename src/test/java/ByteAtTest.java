/** Promise 7: byteAt. */
public final class ByteAtTest {
    private static final Check CHECK = new Check("byteAt");

    public static void main(String[] args) {
        countsUpFromTheFirst();
        isTheSameBehindThinning();
        refusesWrongInput();
        CHECK.end();
    }

    private static void countsUpFromTheFirst() {
        LogDisk disk = new LogDisk(2, 64);
        int[] firsts = {0, 1, 255, 256, -1, -256, 70000, Integer.MAX_VALUE, Integer.MIN_VALUE};
        for (int i = 0; i < firsts.length; i++) {
            disk.append(1, 600, firsts[i]);
            for (int k : new int[] {0, 1, 2, 255, 256, 599}) {
                CHECK.due("byte " + k + " from " + firsts[i], (firsts[i] + k) & 255, disk.byteAt(1, i, k));
            }
        }
        CHECK.due("byte 1 from 255", 0, disk.byteAt(1, 2, 1));
        CHECK.due("byte 0 from -1", 255, disk.byteAt(1, 4, 0));
    }

    private static void isTheSameBehindThinning() {
        LogDisk disk = new LogDisk(2, 64);
        for (int i = 0; i < 8; i++) {
            disk.append(1, 600, 1000 * i);
        }
        disk.thin(1, 2);
        disk.recover();
        CHECK.due("byte 599 of the first that stays", (1000 + 599) & 255, disk.byteAt(1, 0, 599));
        CHECK.due("byte 0 of the last", 7000 & 255, disk.byteAt(1, disk.log(1, 0) - 1, 0));
    }

    private static void refusesWrongInput() {
        LogDisk disk = new LogDisk(1, 16);
        CHECK.illegalArgument("entry 0 of none", () -> disk.byteAt(0, 0, 0));
        disk.append(0, 10, 3);
        CHECK.due("the last byte", 12, disk.byteAt(0, 0, 9));
        CHECK.illegalArgument("byte -1", () -> disk.byteAt(0, 0, -1));
        CHECK.illegalArgument("byte 10 of ten", () -> disk.byteAt(0, 0, 10));
        CHECK.illegalArgument("byte MAX", () -> disk.byteAt(0, 0, Integer.MAX_VALUE));
        CHECK.illegalArgument("entry -1", () -> disk.byteAt(0, -1, 0));
        CHECK.illegalArgument("entry 1 of one", () -> disk.byteAt(0, 1, 0));
        CHECK.illegalArgument("log -1", () -> disk.byteAt(-1, 0, 0));
        CHECK.illegalArgument("log 4", () -> disk.byteAt(4, 0, 0));
        disk.crash(0);
        CHECK.illegalState("while down", () -> disk.byteAt(0, 0, 0));
        CHECK.illegalState("no such entry while down", () -> disk.byteAt(0, 1, 0));
        CHECK.illegalState("no such byte while down", () -> disk.byteAt(0, 0, 10));
        CHECK.illegalArgument("log 4 while down", () -> disk.byteAt(4, 0, 0));
    }
}
