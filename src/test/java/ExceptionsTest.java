/** The terms' sixth paragraph: illegal argument, illegal state, and which of them is thrown. */
public final class ExceptionsTest {
    private static final Check CHECK = new Check("exceptions");
    private static final int MIN = Integer.MIN_VALUE;
    private static final int MAX = Integer.MAX_VALUE;

    public static void main(String[] args) {
        numberOutOfBounds();
        noSuchLog();
        noSuchEntry();
        noSuchByte();
        whatWentCannotBeAsked();
        theDiskIsDown();
        thatIsNotAskedThen();
        butForLogNumbers();
        theOneNamedFirst();
        changesNothing();
        changesNothingWhileDown();
        leavesThePowerAsItWas();
        CHECK.end();
    }

    /** Log 0 with entries of 10 and 1000 bytes in a closed segment and 10 in its open one, log 1 with one of a byte. */
    private static LogDisk fourEntries() {
        LogDisk disk = new LogDisk(1, 16);
        disk.append(0, 10, 0);
        disk.append(0, 1000, 50);
        disk.append(0, 10, 100);
        disk.append(1, 1, 200);
        return disk;
    }

    private static LogDisk down() {
        LogDisk disk = fourEntries();
        disk.crash(0);
        return disk;
    }

    private static void numberOutOfBounds() {
        CHECK.sentence("illegal argument: a number is out of its bounds");
        outOfBounds(fourEntries(), "");
    }

    private static void outOfBounds(LogDisk disk, String with) {
        for (int n : new int[] {MIN, -1, 0, 20001, 20002, MAX}) {
            CHECK.illegalArgument("append(0, " + n + ", 0)" + with, () -> disk.append(0, n, 0));
        }
        for (int bytes : new int[] {MIN, -2, -1}) {
            CHECK.illegalArgument("retain(0, " + bytes + ")" + with, () -> disk.retain(0, bytes));
        }
        for (int k : new int[] {MIN, -1, 0, 1001, 1002, MAX}) {
            CHECK.illegalArgument("thin(0, " + k + ")" + with, () -> disk.thin(0, k));
        }
        for (int what : new int[] {MIN, -1, 4, 5, MAX}) {
            CHECK.illegalArgument("log(0, " + what + ")" + with, () -> disk.log(0, what));
        }
        for (int what : new int[] {MIN, -1, 3, 4, MAX}) {
            CHECK.illegalArgument("entry(0, 0, " + what + ")" + with, () -> disk.entry(0, 0, what));
        }
        for (int n : new int[] {MIN, -3, -2, 1001, 1002, MAX}) {
            CHECK.illegalArgument("crash(" + n + ")" + with, () -> disk.crash(n));
        }
    }

    private static void noSuchLog() {
        CHECK.sentence("there is no such log");
        wrongLog(fourEntries(), "");
    }

    private static void wrongLog(LogDisk disk, String with) {
        for (int log : new int[] {MIN, -1, 4, 5, MAX}) {
            CHECK.illegalArgument("append(" + log + ", 1, 0)" + with, () -> disk.append(log, 1, 0));
            CHECK.illegalArgument("retain(" + log + ", 0)" + with, () -> disk.retain(log, 0));
            CHECK.illegalArgument("thin(" + log + ", 1)" + with, () -> disk.thin(log, 1));
            CHECK.illegalArgument("log(" + log + ", 0)" + with, () -> disk.log(log, 0));
            CHECK.illegalArgument("entry(" + log + ", 0, 0)" + with, () -> disk.entry(log, 0, 0));
            CHECK.illegalArgument("byteAt(" + log + ", 0, 0)" + with, () -> disk.byteAt(log, 0, 0));
        }
    }

    private static void noSuchEntry() {
        CHECK.sentence("there is no such .. entry");
        LogDisk disk = fourEntries();
        for (int i : new int[] {MIN, -1, 3, 4, 511, 512, MAX}) {
            for (int what = 0; what <= 2; what++) {
                int asked = what;
                CHECK.illegalArgument("entry(0, " + i + ", " + what + ")", () -> disk.entry(0, i, asked));
            }
            CHECK.illegalArgument("byteAt(0, " + i + ", 0)", () -> disk.byteAt(0, i, 0));
        }
        CHECK.illegalArgument("entry of an empty log", () -> disk.entry(2, 0, 0));
        CHECK.illegalArgument("byteAt of an empty log", () -> disk.byteAt(2, 0, 0));
        CHECK.due("the last entry", 10, disk.entry(0, 2, 0));
        CHECK.due("a byte of the last entry", 100, disk.byteAt(0, 2, 0));
    }

    private static void noSuchByte() {
        CHECK.sentence("there is no such .. byte");
        LogDisk disk = fourEntries();
        for (int k : new int[] {MIN, -1, 10, 11, MAX}) {
            CHECK.illegalArgument("byteAt(0, 2, " + k + ")", () -> disk.byteAt(0, 2, k));
        }
        CHECK.illegalArgument("the second byte of one", () -> disk.byteAt(1, 0, 1));
        CHECK.due("the last byte", 109, disk.byteAt(0, 2, 9));
        CHECK.due("the only byte", 200, disk.byteAt(1, 0, 0));
    }

    private static void whatWentCannotBeAsked() {
        CHECK.sentence("there is no such log, entry or byte");
        LogDisk disk = new LogDisk(1, 64);
        for (int round = 0; round < 6; round++) {
            for (int i = 0; i < 9; i++) {
                disk.append(0, 300, 10 * i);
            }
            behindTheLast(disk, 0, "append");
            disk.thin(0, 3);
            behindTheLast(disk, 0, "thinning");
            disk.retain(0, 1000);
            behindTheLast(disk, 0, "retention");
            disk.crash(1);
            disk.append(0, 300, 0);
            disk.recover();
            behindTheLast(disk, 0, "a cut");
        }
    }

    private static void behindTheLast(LogDisk disk, int log, String behind) {
        int entries = disk.log(log, 0);
        CHECK.due("the last entry behind " + behind, 300, disk.entry(log, entries - 1, 0));
        for (int i = entries; i < entries + 9; i++) {
            int none = i;
            CHECK.illegalArgument("entry behind " + behind, () -> disk.entry(log, none, 0));
            CHECK.illegalArgument("byteAt behind " + behind, () -> disk.byteAt(log, none, 0));
        }
    }

    private static void theDiskIsDown() {
        CHECK.sentence("Illegal state: the disk is DOWN");
        LogDisk disk = down();
        CHECK.illegalState("append", () -> disk.append(0, 1, 0));
        CHECK.illegalState("append of what is LARGE", () -> disk.append(0, 20000, 0));
        CHECK.illegalState("retain", () -> disk.retain(0, 0));
        CHECK.illegalState("retain of an empty log", () -> disk.retain(2, 0));
        CHECK.illegalState("thin", () -> disk.thin(0, 1));
        CHECK.illegalState("thin of an empty log", () -> disk.thin(2, 1000));
        CHECK.illegalState("log", () -> disk.log(0, 0));
        CHECK.illegalState("entry", () -> disk.entry(0, 0, 0));
        CHECK.illegalState("byteAt", () -> disk.byteAt(0, 0, 0));
        CHECK.illegalState("crash(NONE)", () -> disk.crash(LogDisk.NONE));
        CHECK.illegalState("crash(0)", () -> disk.crash(0));
        CHECK.illegalState("crash(1000)", () -> disk.crash(1000));
        CHECK.illegalState("free", disk::free);
        CHECK.due("writes(), which names no exception", 8, disk.writes());
        CHECK.due("isDown(), which names no exception", true, disk.isDown());
        CHECK.due("recover(), which names no exception", 4, disk.recover());
    }

    private static void thatIsNotAskedThen() {
        CHECK.sentence("(which logs, entries and bytes there are is not asked then");
        LogDisk disk = down();
        for (int none : new int[] {MIN, -1, 3, 4, 512, MAX}) {
            CHECK.illegalState("entry(0, " + none + ", 0)", () -> disk.entry(0, none, 0));
            CHECK.illegalState("byteAt(0, " + none + ", 0)", () -> disk.byteAt(0, none, 0));
        }
        for (int none : new int[] {MIN, -1, 10, 1000, MAX}) {
            CHECK.illegalState("byteAt(0, 0, " + none + ")", () -> disk.byteAt(0, 0, none));
        }
        CHECK.illegalState("entry of an empty log", () -> disk.entry(3, 0, 0));
        CHECK.illegalState("byteAt of an empty log", () -> disk.byteAt(3, 0, 0));
    }

    private static void butForLogNumbers() {
        CHECK.sentence("but for the bounds of log numbers)");
        wrongLog(down(), " while down");
    }

    private static void theOneNamedFirst() {
        CHECK.sentence("Of several exceptions the one named first is thrown");
        outOfBounds(down(), " while down");
    }

    private static void changesNothing() {
        CHECK.sentence("a call that throws changes nothing");
        LogDisk disk = fourEntries();
        String before = Picture.of(disk);
        outOfBounds(disk, " for its picture");
        CHECK.due("behind numbers out of bounds", before, Picture.of(disk));
        wrongLog(disk, " for its picture");
        CHECK.due("behind logs that are not", before, Picture.of(disk));
        CHECK.due("what comes then", 2, disk.append(0, 3, 0));
    }

    private static void changesNothingWhileDown() {
        CHECK.sentence("a call that throws changes nothing");
        LogDisk disk = fourEntries();
        String before = Picture.of(disk);
        disk.crash(0);
        CHECK.illegalState("append", () -> disk.append(0, 1, 0));
        CHECK.illegalState("append into a new segment", () -> disk.append(3, 1, 0));
        CHECK.illegalState("retain", () -> disk.retain(0, 0));
        CHECK.illegalState("thin", () -> disk.thin(0, 1));
        CHECK.illegalState("crash", () -> disk.crash(LogDisk.NONE));
        CHECK.due("isDown()", true, disk.isDown());
        CHECK.due("writes()", 8, disk.writes());
        disk.recover();
        CHECK.due("behind recover()", before, Picture.of(disk));
    }

    private static void leavesThePowerAsItWas() {
        CHECK.sentence("a call that throws changes nothing");
        LogDisk disk = fourEntries();
        disk.crash(3);
        outOfBounds(disk, " with power for 3");
        wrongLog(disk, " with power for 3");
        CHECK.due("blocks 1 and 2", 2, disk.append(0, 1, 0));
        CHECK.due("block 3", LogDisk.CUT, disk.append(0, 1, 0));
        LogDisk steady = fourEntries();
        outOfBounds(steady, " with no end of power");
        for (int i = 0; i < 20; i++) {
            CHECK.due("what comes then", 2, steady.append(1, 1, 0));
        }
    }
}
