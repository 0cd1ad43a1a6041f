/** Promise 7: byteAt. */
public final class ByteAtTest {
    private static final Check CHECK = new Check("byteAt");

    public static void main(String[] args) {
        from0To255();
        byteKOfEntryI();
        isTheSameWhereverItLies();
        noSuchByte();
        noSuchEntry();
        noSuchLog();
        whileDown();
        CHECK.end();
    }

    private static void from0To255() {
        CHECK.sentence("0 .. 255");
        LogDisk disk = new LogDisk(2, 64);
        int[] firsts = {0, 1, 255, 256, -1, -256, 70000, Integer.MAX_VALUE, Integer.MIN_VALUE};
        for (int i = 0; i < firsts.length; i++) {
            disk.append(1, 600, firsts[i]);
            for (int k : new int[] {0, 1, 2, 255, 256, 257, 511, 512, 599}) {
                CHECK.due("byte " + k + " from " + firsts[i], (firsts[i] + k) & 255, disk.byteAt(1, i, k));
            }
        }
        CHECK.due("byte 0 from 255", 255, disk.byteAt(1, 2, 0));
        CHECK.due("byte 1 from 255", 0, disk.byteAt(1, 2, 1));
        CHECK.due("byte 0 from -1", 255, disk.byteAt(1, 4, 0));
        CHECK.due("byte 1 from -1", 0, disk.byteAt(1, 4, 1));
        CHECK.due("byte 0 from MAX", 255, disk.byteAt(1, 7, 0));
        CHECK.due("byte 1 from MAX", 0, disk.byteAt(1, 7, 1));
    }

    private static void byteKOfEntryI() {
        CHECK.sentence("Byte k of entry i of a log");
        LogDisk disk = new LogDisk(1, 64);
        for (int i = 0; i < 40; i++) {
            disk.append(i % 4, 100 + i, 3 * i);
        }
        for (int i = 0; i < 40; i++) {
            CHECK.due("first byte of " + i, 3 * i, disk.byteAt(i % 4, i / 4, 0));
            CHECK.due("last byte of " + i, (3 * i + 99 + i) & 255, disk.byteAt(i % 4, i / 4, 99 + i));
        }
    }

    private static void isTheSameWhereverItLies() {
        CHECK.sentence("Byte k of entry i of a log");
        LogDisk disk = new LogDisk(2, 64);
        for (int i = 0; i < 8; i++) {
            disk.append(1, 600, 1000 * i);
        }
        disk.thin(1, 2);
        disk.recover();
        CHECK.due("byte 599 of the first that stays", (1000 + 599) & 255, disk.byteAt(1, 0, 599));
        CHECK.due("byte 0 of the last", 7000 & 255, disk.byteAt(1, disk.log(1, 0) - 1, 0));
    }

    private static LogDisk tenBytes() {
        LogDisk disk = new LogDisk(1, 16);
        disk.append(0, 10, 3);
        return disk;
    }

    private static void noSuchByte() {
        CHECK.sentence("Illegal argument");
        LogDisk disk = tenBytes();
        CHECK.due("the last byte", 12, disk.byteAt(0, 0, 9));
        for (int k : new int[] {Integer.MIN_VALUE, -1, 10, 11, 13, 14, Integer.MAX_VALUE}) {
            CHECK.illegalArgument("byte " + k + " of ten", () -> disk.byteAt(0, 0, k));
        }
        disk.append(0, 1, 7);
        CHECK.due("the only byte", 7, disk.byteAt(0, 1, 0));
        CHECK.illegalArgument("byte 1 of one", () -> disk.byteAt(0, 1, 1));
        LogDisk wide = new LogDisk(16, 64);
        wide.append(0, 16380, 0);
        CHECK.due("the last byte of the largest", 16379 & 255, wide.byteAt(0, 0, 16379));
        CHECK.illegalArgument("one behind it", () -> wide.byteAt(0, 0, 16380));
    }

    private static void noSuchEntry() {
        CHECK.sentence("Illegal argument");
        LogDisk disk = tenBytes();
        CHECK.illegalArgument("entry 0 of none", () -> disk.byteAt(1, 0, 0));
        for (int i : new int[] {Integer.MIN_VALUE, -1, 1, 2, Integer.MAX_VALUE}) {
            CHECK.illegalArgument("entry " + i + " of one", () -> disk.byteAt(0, i, 0));
        }
    }

    private static void noSuchLog() {
        CHECK.sentence("Illegal argument");
        LogDisk disk = tenBytes();
        for (int log : new int[] {Integer.MIN_VALUE, -1, 4, Integer.MAX_VALUE}) {
            CHECK.illegalArgument("log " + log, () -> disk.byteAt(log, 0, 0));
        }
    }

    private static void whileDown() {
        CHECK.sentence("illegal state");
        LogDisk disk = tenBytes();
        disk.crash(0);
        CHECK.illegalState("while down", () -> disk.byteAt(0, 0, 0));
        CHECK.illegalState("no such entry while down", () -> disk.byteAt(0, 1, 0));
        CHECK.illegalState("entry -1 while down", () -> disk.byteAt(0, -1, 0));
        CHECK.illegalState("no such byte while down", () -> disk.byteAt(0, 0, 10));
        CHECK.illegalState("byte -1 while down", () -> disk.byteAt(0, 0, -1));
        CHECK.illegalArgument("log -1 while down", () -> disk.byteAt(-1, 0, 0));
        CHECK.illegalArgument("log 4 while down", () -> disk.byteAt(4, 0, 0));
    }
}
