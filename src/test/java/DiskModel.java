import java.util.ArrayList;
import java.util.Arrays;
import java.util.List;

/**
 * The document once more, in another way: a disk of real bytes, of which all is read anew at every call.
 * A head holds how many entries came, how many segments there are, and of each its first block and its bytes;
 * an entry's four bytes hold its length. So what this answers can be found again behind a loss of power.
 */
final class DiskModel {
    static final class Segment {
        int start;
        final List<byte[]> entries = new ArrayList<>();

        int bytes() {
            int sum = 0;
            for (byte[] entry : entries) {
                sum += entry.length + 4;
            }
            return sum;
        }
    }

    static final class Head {
        int came;
        final List<Segment> segments = new ArrayList<>();

        List<Segment> closed() {
            return segments.isEmpty() ? segments : segments.subList(0, segments.size() - 1);
        }
    }

    /** Stands for the loss of power between two blocks. */
    private static final class PowerLost extends Exception {
        private static final long serialVersionUID = 1;
    }

    private final int segmentBlocks;
    private final byte[][] disk;
    private int power = -1;
    private boolean down = false;
    private int writes = 0;

    DiskModel(int segment, int blocks) {
        segmentBlocks = segment < 1 ? 1 : segment > 16 ? 16 : segment;
        disk = new byte[blocks < 16 ? 16 : blocks > 256 ? 256 : blocks][1024];
    }

    int append(int log, int n, int b) {
        bounds(log, 0, 3);
        bounds(n, 1, 20000);
        up();
        byte[] entry = new byte[n];
        for (int k = 0; k < n; k++) {
            entry[k] = (byte) (b + k);
        }
        if (n + 4 > segmentBlocks * 1024) {
            return -5;
        }
        Head head = read(log);
        Segment open = head.segments.isEmpty() ? null : head.segments.get(head.segments.size() - 1);
        if (open == null || open.bytes() + n + 4 > segmentBlocks * 1024) {
            open = new Segment();
            open.start = head.segments.size() == 60 ? -1 : room(List.of());
            if (open.start == -1) {
                return -2;
            }
            head.segments.add(open);
        }
        int from = open.bytes();
        open.entries.add(entry);
        head.came++;
        int before = writes;
        try {
            writeSegment(open, from);
            writeHead(log, head);
        } catch (PowerLost e) {
            return -3;
        }
        return writes - before;
    }

    int retain(int log, int bytes) {
        bounds(log, 0, 3);
        bounds(bytes, 0, Integer.MAX_VALUE);
        up();
        Head head = read(log);
        int gone = 0;
        while (head.segments.size() > 1 && bytes(head) - head.segments.get(0).bytes() >= bytes) {
            head.segments.remove(0);
            gone++;
        }
        try {
            if (gone > 0) {
                writeHead(log, head);
            }
        } catch (PowerLost e) {
            return -3;
        }
        return gone;
    }

    int thin(int log, int k) {
        bounds(log, 0, 3);
        bounds(k, 1, 1000);
        up();
        Head head = read(log);
        List<Segment> packed = new ArrayList<>();
        int number = 0;
        int gone = 0;
        for (Segment segment : head.closed()) {
            for (byte[] entry : segment.entries) {
                if (number++ % k == 0) {
                    gone++;
                } else if (!pack(entry, packed)) {
                    return -2;
                }
            }
        }
        if (gone == 0) {
            return 0;
        }
        packed.add(head.segments.get(head.segments.size() - 1));
        head.segments.clear();
        head.segments.addAll(packed);
        try {
            for (Segment segment : head.closed()) {
                writeSegment(segment, 0);
            }
            writeHead(log, head);
        } catch (PowerLost e) {
            return -3;
        }
        return gone;
    }

    int log(int log, int what) {
        bounds(log, 0, 3);
        bounds(what, 0, 3);
        up();
        Head head = read(log);
        int[] answers = {entries(head), head.segments.size(), bytes(head), head.came};
        return answers[what];
    }

    int entry(int log, int i, int what) {
        bounds(log, 0, 3);
        bounds(what, 0, 2);
        up();
        bounds(i, 0, log(log, 0) - 1);
        int number = 0;
        List<Segment> segments = read(log).segments;
        for (int s = 0; s < segments.size(); s++) {
            int offset = 0;
            for (byte[] entry : segments.get(s).entries) {
                if (number++ == i) {
                    int[] answers = {entry.length, segments.get(s).start + offset / 1024, s};
                    return answers[what];
                }
                offset += entry.length + 4;
            }
        }
        throw new AssertionError();
    }

    int byteAt(int log, int i, int k) {
        bounds(log, 0, 3);
        up();
        bounds(i, 0, log(log, 0) - 1);
        List<byte[]> all = new ArrayList<>();
        for (Segment segment : read(log).segments) {
            all.addAll(segment.entries);
        }
        bounds(k, 0, all.get(i).length - 1);
        return all.get(i)[k] & 255;
    }

    void crash(int n) {
        bounds(n, -1, 1000);
        up();
        power = n;
        down = n == 0;
    }

    int recover() {
        power = -1;
        down = false;
        int sum = 0;
        for (int log = 0; log < 4; log++) {
            sum += entries(read(log));
        }
        return sum;
    }

    boolean isDown() {
        return down;
    }

    int writes() {
        return writes;
    }

    int free() {
        up();
        int count = 0;
        for (boolean isTaken : taken(List.of())) {
            count += isTaken ? 0 : 1;
        }
        return count;
    }

    private static void bounds(int number, int low, int high) {
        if (number < low || number > high) {
            throw new IllegalArgumentException();
        }
    }

    private void up() {
        if (down) {
            throw new IllegalStateException();
        }
    }

    private static int entries(Head head) {
        int sum = 0;
        for (Segment segment : head.segments) {
            sum += segment.entries.size();
        }
        return sum;
    }

    private static int bytes(Head head) {
        int sum = 0;
        for (Segment segment : head.segments) {
            sum += segment.bytes();
        }
        return sum;
    }

    private boolean pack(byte[] entry, List<Segment> packed) {
        Segment last = packed.isEmpty() ? null : packed.get(packed.size() - 1);
        if (last == null || last.bytes() + entry.length + 4 > segmentBlocks * 1024) {
            last = new Segment();
            last.start = room(packed);
            if (last.start == -1) {
                return false;
            }
            packed.add(last);
        }
        last.entries.add(entry);
        return true;
    }

    private int room(List<Segment> more) {
        boolean[] taken = taken(more);
        for (int start = 4; start + segmentBlocks <= disk.length; start++) {
            boolean clear = true;
            for (int i = 0; i < segmentBlocks; i++) {
                clear &= !taken[start + i];
            }
            if (clear) {
                return start;
            }
        }
        return -1;
    }

    private boolean[] taken(List<Segment> more) {
        boolean[] taken = new boolean[disk.length];
        Arrays.fill(taken, 0, 4, true);
        List<Segment> all = new ArrayList<>(more);
        for (int log = 0; log < 4; log++) {
            all.addAll(read(log).segments);
        }
        for (Segment segment : all) {
            Arrays.fill(taken, segment.start, segment.start + segmentBlocks, true);
        }
        return taken;
    }

    private Head read(int log) {
        Head head = new Head();
        byte[] block = disk[log];
        head.came = number(block, 0);
        int count = number(block, 4);
        for (int s = 0; s < count; s++) {
            head.segments.add(readSegment(number(block, 8 + 8 * s), number(block, 12 + 8 * s)));
        }
        return head;
    }

    private Segment readSegment(int start, int bytes) {
        Segment segment = new Segment();
        segment.start = start;
        byte[] image = new byte[segmentBlocks * 1024];
        for (int i = 0; i < segmentBlocks; i++) {
            System.arraycopy(disk[start + i], 0, image, 1024 * i, 1024);
        }
        int at = 0;
        while (at < bytes) {
            int length = number(image, at);
            segment.entries.add(Arrays.copyOfRange(image, at + 4, at + 4 + length));
            at += length + 4;
        }
        return segment;
    }

    /** Writes those blocks of a segment in which its bytes from one on lie. */
    private void writeSegment(Segment segment, int from) throws PowerLost {
        byte[] image = new byte[segmentBlocks * 1024];
        int at = 0;
        for (byte[] entry : segment.entries) {
            setNumber(image, at, entry.length);
            System.arraycopy(entry, 0, image, at + 4, entry.length);
            at += entry.length + 4;
        }
        for (int i = from / 1024; i * 1024 < at; i++) {
            writeBlock(segment.start + i, Arrays.copyOfRange(image, 1024 * i, 1024 * i + 1024));
        }
    }

    private void writeHead(int log, Head head) throws PowerLost {
        byte[] block = new byte[1024];
        setNumber(block, 0, head.came);
        setNumber(block, 4, head.segments.size());
        for (int s = 0; s < head.segments.size(); s++) {
            setNumber(block, 8 + 8 * s, head.segments.get(s).start);
            setNumber(block, 12 + 8 * s, head.segments.get(s).bytes());
        }
        writeBlock(log, block);
    }

    private void writeBlock(int number, byte[] block) throws PowerLost {
        disk[number] = block;
        writes++;
        if (power > 0 && --power == 0) {
            down = true;
            throw new PowerLost();
        }
    }

    private static int number(byte[] row, int at) {
        return (row[at] & 255) << 24 | (row[at + 1] & 255) << 16 | (row[at + 2] & 255) << 8 | row[at + 3] & 255;
    }

    private static void setNumber(byte[] row, int at, int value) {
        for (int i = 0; i < 4; i++) {
            row[at + i] = (byte) (value >>> (24 - 8 * i));
        }
    }
}
