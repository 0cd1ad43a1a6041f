/** The most entries that an object's 512 calls can bring, and that no later call is thrown by the machine. */
public final class ManyCallsTest {
    private static final Check CHECK = new Check("many calls");
    private static final int[] ODD = {Integer.MIN_VALUE, -2, -1, 0, 1, 3, 4, 59, 60, 511, 512, Integer.MAX_VALUE};

    public static void main(String[] args) {
        all512CallsBringAnEntry();
        laterCallsOnlyThrowWhatIsNamed();
        CHECK.end();
    }

    private static void all512CallsBringAnEntry() {
        LogDisk disk = new LogDisk(1, 16);
        for (int i = 0; i < 512; i++) {
            CHECK.due("append " + i, 2, disk.append(0, 1, i));
        }
        // What these answer is not promised, but the 512 entries ought not to be lost.
        CHECK.due("entries", 512, disk.log(0, 0));
        CHECK.due("the last byte", 255, disk.byteAt(0, 511, 0));
    }

    private static void laterCallsOnlyThrowWhatIsNamed() {
        LogDisk disk = new LogDisk(1, 256);
        for (int i = 0; i < 3000; i++) {
            disk.append(i % 4, 1 + i % 9, i);
        }
        for (int round = 0; round < 2; round++) {
            for (int x : ODD) {
                for (int y : ODD) {
                    onlyNamed(() -> disk.append(x, y, x));
                    onlyNamed(() -> disk.thin(x, y));
                    onlyNamed(() -> disk.retain(x, y));
                    onlyNamed(() -> disk.log(x, y));
                    for (int z : ODD) {
                        onlyNamed(() -> disk.entry(x, y, z));
                        onlyNamed(() -> disk.byteAt(x, y, z));
                    }
                }
            }
            onlyNamed(disk::free);
            onlyNamed(() -> disk.crash(0));
            onlyNamed(disk::free);
        }
        CHECK.due("recover() answers", true, disk.recover() >= 0);
    }

    private static void onlyNamed(Runnable call) {
        Class<?> thrown = null;
        try {
            call.run();
        } catch (RuntimeException e) {
            thrown = e.getClass();
        }
        boolean named = thrown == null || thrown == IllegalArgumentException.class
            || thrown == IllegalStateException.class;
        CHECK.due("threw " + thrown + ": named", true, named);
    }
}
