/** All that a disk which is not DOWN answers, as one text: two are the same just if nothing changed between them. */
final class Picture {
    private Picture() {
    }

    static String of(LogDisk disk) {
        StringBuilder text = new StringBuilder(ofLogs(disk));
        text.append("writes ").append(disk.writes()).append(", down ").append(disk.isDown());
        return text.toString();
    }

    /** The same without what has to do with writing, for disks that came to one state in two ways. */
    static String ofLogs(LogDisk disk) {
        StringBuilder text = new StringBuilder();
        for (int log = 0; log < 4; log++) {
            text.append("log ").append(log).append(':');
            for (int what = 0; what < 4; what++) {
                text.append(' ').append(disk.log(log, what));
            }
            for (int i = 0; i < disk.log(log, 0); i++) {
                addEntry(text, disk, log, i);
            }
            text.append("; ");
        }
        return text.append("free ").append(disk.free()).append(", ").toString();
    }

    private static void addEntry(StringBuilder text, LogDisk disk, int log, int i) {
        int bytes = disk.entry(log, i, 0);
        text.append(" (").append(bytes).append(" from ").append(disk.entry(log, i, 1));
        text.append(" in ").append(disk.entry(log, i, 2)).append(": ").append(disk.byteAt(log, i, 0));
        text.append(" .. ").append(disk.byteAt(log, i, bytes - 1)).append(')');
    }
}
