/** Brings yards to their limits with few calls, so that a test has calls left. */
final class Fill {
    private static final String START = "FROM empty\n";

    private Fill() {
    }

    /** Makes a yard have a number of blobs, of at most 60; the tag tells the last image. */
    static void blobs(Yards x, int yard, int tag, int count) {
        blobs(x, yard, tag, count, 'q');
    }

    /** The same with another name, for a yard that was filled before. */
    static void blobs(Yards x, int yard, int tag, int count, char name) {
        int at = x.yard(yard, 0);
        while (at < count) {
            // Each build keeps a blob for each of its lines, and the image.
            int lines = Math.min(12, count - at - 1);
            StringBuilder text = new StringBuilder(START);
            for (int i = 0; i < lines; i++) {
                text.append("COPY ").append(name).append(' ').append((char) ('0' + at + i)).append('\n');
            }
            Check.build(x, yard, tag, lines > 0 ? text.toString() : START + "ENV " + name + " " + (char) ('0' + at));
            at += lines + 1;
        }
    }

    /** Makes a yard without keys have a number of keys, of at most 60, with few blobs. */
    static void keys(Yards x, int yard, int tag, int count) {
        for (int at = 0; at < count; at += 12) {
            int lines = Math.min(12, count - at);
            Check.build(x, yard, tag, START + "ENV k " + (char) ('a' + at / 12) + "\nCOPY k" + "\nCOPY k".repeat(lines - 1));
        }
    }

    /** Fills an empty yard's journal up to some bytes (at most 500) ahead of its end; tags 0 and 7 tell images. */
    static void journal(Yards x, int yard, int left) {
        String great = "RUN put a %s;join a a;join a a;join a a;join a a\n";
        for (int i = 0; i < 3; i++) {
            String line = String.format(great, ("" + (char) ('A' + i)).repeat(60));
            Check.build(x, yard, i % 2 == 0 ? 0 : 7, START + line + "RUN add a x\n".repeat(11));
        }
        int more = 577 - left;
        String line = String.format(great, "D".repeat(60));
        Check.build(x, yard, 7, START + line + "RUN add a x\n".repeat(2) + "RUN rm a;put b " + "y".repeat(more / 8)
                + ";join b b".repeat(3) + "\nCOPY c " + "z".repeat(more % 8));
        if (x.yard(yard, 2) != 40000 - left) {
            System.out.println("the journal has " + x.yard(yard, 2) + " bytes, wanted were " + (40000 - left));
        }
    }
}
