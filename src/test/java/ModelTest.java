import java.util.function.IntSupplier;

/** Many runs of calls, always the same ones, on a LogDisk and on a disk of real bytes: all promises together. */
public final class ModelTest {
    private static final Check CHECK = new Check("against a disk of bytes");
    private static final int RUNS = 300;
    private static final int CALLS = 512;

    private static long state = 20261115;

    private final LogDisk disk;
    private final DiskModel model;
    private final int largest;
    private final boolean oneLog;
    private final String name;

    private ModelTest(int run) {
        int segment = draw(4) == 0 ? draw(19) - 1 : 1 + draw(4);
        int blocks = draw(3) == 0 ? draw(300) : 16 + draw(60);
        disk = new LogDisk(segment, blocks);
        model = new DiskModel(segment, blocks);
        int bytes = Math.max(1, Math.min(16, segment)) * 1024;
        largest = draw(3) == 0 ? bytes + 20 : draw(2) == 0 ? bytes / 3 : 300;
        oneLog = draw(3) == 0;
        name = "run " + run + ", new LogDisk(" + segment + ", " + blocks + "), call ";
    }

    public static void main(String[] args) {
        for (int run = 0; run < RUNS; run++) {
            ModelTest test = new ModelTest(run);
            for (int call = 0; call < CALLS; call++) {
                test.call(call);
            }
        }
        CHECK.end();
    }

    private static int draw(int bound) {
        state = state * 6364136223846793005L + 1442695040888963407L;
        return (int) ((state >>> 33) % bound);
    }

    private void call(int number) {
        int log = draw(80) == 0 ? draw(8) - 2 : oneLog ? 2 : draw(4);
        int kind = draw(100);
        if (model.isDown() && draw(2) == 0) {
            same(number, "recover()", disk::recover, model::recover);
        } else if (kind < 40) {
            append(number, log);
        } else if (kind < 44) {
            int bytes = draw(20) == 0 ? -draw(3) : draw(40000);
            same(number, "retain(" + log + ", " + bytes + ")", () -> disk.retain(log, bytes),
                () -> model.retain(log, bytes));
        } else if (kind < 50) {
            int k = draw(30) == 0 ? draw(4) * 500 - 499 : 1 + draw(draw(2) == 0 ? 6 : 40);
            same(number, "thin(" + log + ", " + k + ")", () -> disk.thin(log, k), () -> model.thin(log, k));
        } else if (kind < 54) {
            crash(number);
        } else {
            ask(number, log, kind);
        }
    }

    private void append(int number, int log) {
        int n = draw(60) == 0 ? draw(4) * 10000 - 9999 : 1 + draw(largest);
        int b = draw(1000) - 500;
        same(number, "append(" + log + ", " + n + ", " + b + ")", () -> disk.append(log, n, b),
            () -> model.append(log, n, b));
    }

    private void crash(int number) {
        int n = draw(20) == 0 ? draw(3) * 1000 - 2 : draw(20) - 1;
        same(number, "crash(" + n + ")", () -> {
            disk.crash(n);
            return 0;
        }, () -> {
            model.crash(n);
            return 0;
        });
    }

    private void ask(int number, int log, int kind) {
        int entries = model.isDown() || log < 0 || log > 3 ? 3 : model.log(log, 0);
        int i = draw(20) == 0 ? draw(600) - 2 : draw(Math.max(1, entries));
        int what = draw(30) == 0 ? draw(8) - 2 : draw(kind < 64 ? 4 : 3);
        int k = draw(8) == 0 ? draw(20000) - 1 : draw(Math.max(1, bytesOf(log, i)));
        if (kind < 64) {
            same(number, "log(" + log + ", " + what + ")", () -> disk.log(log, what), () -> model.log(log, what));
        } else if (kind < 78) {
            same(number, "entry(" + log + ", " + i + ", " + what + ")", () -> disk.entry(log, i, what),
                () -> model.entry(log, i, what));
        } else if (kind < 88) {
            same(number, "byteAt(" + log + ", " + i + ", " + k + ")", () -> disk.byteAt(log, i, k),
                () -> model.byteAt(log, i, k));
        } else if (kind < 92) {
            same(number, "free()", disk::free, model::free);
        } else if (kind < 96) {
            same(number, "writes()", disk::writes, model::writes);
        } else {
            same(number, "isDown()", () -> disk.isDown() ? 1 : 0, () -> model.isDown() ? 1 : 0);
        }
    }

    private int bytesOf(int log, int i) {
        boolean there = !model.isDown() && log >= 0 && log < 4 && i >= 0 && i < model.log(log, 0);
        return there ? model.entry(log, i, 0) : 0;
    }

    private void same(int number, String call, IntSupplier ofDisk, IntSupplier ofModel) {
        CHECK.due(name + number + ": " + call, answer(ofModel), answer(ofDisk));
    }

    private static long answer(IntSupplier call) {
        try {
            return call.getAsInt();
        } catch (RuntimeException e) {
            // Far from every int, so that an exception equals just an exception of the same class.
            return (1L << 40) + e.getClass().getName().hashCode();
        }
    }
}
