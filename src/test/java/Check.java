import java.nio.charset.StandardCharsets;
import java.util.NoSuchElementException;

/** Counts and prints the answers that are not the due ones. */
final class Check {
    static final Class<IllegalArgumentException> ARGUMENT = IllegalArgumentException.class;
    static final Class<NoSuchElementException> ELEMENT = NoSuchElementException.class;
    static final Class<IndexOutOfBoundsException> INDEX = IndexOutOfBoundsException.class;
    static final Class<IllegalStateException> STATE = IllegalStateException.class;
    static final Class<UnsupportedOperationException> UNSUPPORTED = UnsupportedOperationException.class;

    private static final int MOST_PRINTED = 40;

    private int wrong;

    private void tell(String what) {
        wrong++;
        if (wrong <= MOST_PRINTED) {
            System.out.println(what);
        }
    }

    void due(String call, long got, long due) {
        if (got != due) {
            tell(call + " answered " + got + ", due is " + due);
        }
    }

    void holds(String what, boolean isSo) {
        if (!isSo) {
            tell("it isn't so: " + what);
        }
    }

    void refuses(String call, Class<? extends RuntimeException> due, Runnable run) {
        String got = "nothing";
        try {
            run.run();
        } catch (RuntimeException e) {
            got = e.getClass().getName();
        }
        if (!got.equals(due.getName())) {
            tell(call + " threw " + got + ", due is " + due.getName());
        }
    }

    void end() {
        if (wrong != 0) {
            System.out.println(wrong + " answers are not as due");
            System.exit(1);
        }
    }

    /** Builds a text that takes the place of the build file: the fault's kind. */
    static int build(Yards x, int yard, int tag, String text) {
        write(x, text);
        return x.build(yard, tag);
    }

    static void write(Yards x, String text) {
        x.end(0);
        append(x, text);
    }

    static void append(Yards x, String text) {
        byte[] signs = text.getBytes(StandardCharsets.ISO_8859_1);
        for (int i = 0; i < signs.length; i += 4) {
            int four = 0;
            for (int k = 0; k < 4 && i + k < signs.length; k++) {
                four |= (signs[i + k] & 255) << 8 * k;
            }
            x.put(four);
        }
    }

    /** A build with its fault's kind and line, and how many steps it did and of these were hits. */
    void build(Yards x, String text, int fault, int line, int steps, int hits) {
        due("build of " + text, build(x, 0, 0, text), fault);
        due("its fault's line of " + text, x.built(0), line);
        due("its steps of " + text, x.built(1), steps);
        due("its hits of " + text, x.built(2), hits);
    }

    /** A build in a new object, in the first yard: its fault's kind and line. */
    void fault(String text, int kind, int line) {
        Yards x = new Yards();
        due("build of " + text, build(x, 0, 0, text), kind);
        due("its fault's line of " + text, x.built(0), line);
    }

    /** All that can be asked of an object, as a text; of a long journal its ends. */
    static String all(Yards x) {
        StringBuilder out = new StringBuilder("file ").append(x.put(0)).append(" built");
        for (int what = 0; what < 3; what++) {
            out.append(' ').append(x.built(what));
        }
        for (int yard = 0; yard < 2; yard++) {
            allOfYard(x, yard, out);
        }
        for (int transfer = 0; transfer < 4; transfer++) {
            out.append("\ntransfer ").append(transfer).append(':');
            for (int what = 0; what < 4; what++) {
                out.append(' ').append(x.transfer(transfer, what));
            }
        }
        return out.toString();
    }

    private static void allOfYard(Yards x, int yard, StringBuilder out) {
        out.append("\nyard ").append(yard).append(':');
        for (int what = 0; what < 4; what++) {
            out.append(' ').append(x.yard(yard, what));
        }
        int size = x.yard(yard, 2);
        out.append(" journal");
        for (int k = 0; k < size; k++) {
            if (k < 500 || k >= size - 500) {
                out.append(' ').append(x.journal(yard, k));
            }
        }
        for (int tag = 0; tag < 8; tag++) {
            long digest = x.tag(yard, tag);
            out.append("\ntag ").append(tag).append(": ").append(digest);
            if (digest != 0) {
                out.append(" layers");
                for (int i = 0; i < x.image(yard, tag, 0); i++) {
                    out.append(' ').append(x.layer(yard, tag, i)).append(' ').append(x.blob(yard, x.layer(yard, tag, i)));
                }
                out.append(" settings ").append(x.image(yard, tag, 1)).append(" tree ").append(tree(x, yard, tag));
            }
        }
    }

    /** A tag's tree, as path/ of a directory and path=bytes of a file, with blanks between them. */
    static String tree(Yards x, int yard, int tag) {
        StringBuilder out = new StringBuilder();
        int count = x.image(yard, tag, 2);
        for (int i = 0; i < count; i++) {
            out.append(i == 0 ? "" : " ");
            for (int k = 0; x.entry(yard, tag, i, k, 0) != ImageYard.NONE; k++) {
                out.append((char) x.entry(yard, tag, i, k, 0));
            }
            out.append(x.entry(yard, tag, i, 0, 2) == 1 ? "/" : "=");
            for (int k = 0; k < x.entry(yard, tag, i, 0, 3); k++) {
                out.append((char) x.entry(yard, tag, i, k, 1));
            }
        }
        return out.toString();
    }

    void tree(Yards x, int yard, int tag, String due) {
        String got = tree(x, yard, tag);
        holds("the tree is " + due + " (it is " + got + ")", got.equals(due));
    }

    static byte[] blob(Yards x, int yard, long digest) {
        byte[] bytes = new byte[x.blob(yard, digest)];
        for (int k = 0; k < bytes.length; k++) {
            bytes[k] = (byte) x.byteOf(yard, digest, k);
        }
        return bytes;
    }

    static byte[] journal(Yards x, int yard) {
        byte[] bytes = new byte[x.yard(yard, 2)];
        for (int k = 0; k < bytes.length; k++) {
            bytes[k] = (byte) x.journal(yard, k);
        }
        return bytes;
    }

    static byte[] bytes(int... values) {
        byte[] bytes = new byte[values.length];
        for (int k = 0; k < bytes.length; k++) {
            bytes[k] = (byte) values[k];
        }
        return bytes;
    }
}
