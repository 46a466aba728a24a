import java.nio.charset.StandardCharsets;
import java.util.NoSuchElementException;

/** Counts and prints the answers that are not the due ones. */
final class Check {
    static final Class<IllegalArgumentException> ARGUMENT = IllegalArgumentException.class;
    static final Class<NoSuchElementException> ELEMENT = NoSuchElementException.class;
    static final Class<IndexOutOfBoundsException> INDEX = IndexOutOfBoundsException.class;
    static final Class<IllegalStateException> STATE = IllegalStateException.class;
    static final Class<UnsupportedOperationException> UNSUPPORTED = UnsupportedOperationException.class;

    private int wrong;

    void due(String call, long got, long due) {
        if (got != due) {
            wrong++;
            System.out.println(call + " answered " + got + ", due is " + due);
        }
    }

    void holds(String what, boolean isSo) {
        if (!isSo) {
            wrong++;
            System.out.println("it isn't so: " + what);
        }
    }

    void refuses(String call, Class<? extends RuntimeException> due, Runnable run) {
        String got = "nothing";
        try {
            run.run();
        } catch (RuntimeException e) {
            got = e.getClass().getName();
        }
        if (!got.equals(due.getName())) {
            wrong++;
            System.out.println(call + " threw " + got + ", due is " + due.getName());
        }
    }

    void end() {
        if (wrong != 0) {
            System.out.println(wrong + " answers are not as due");
            System.exit(1);
        }
    }

    /** Builds a text that takes the place of the build file: the fault's kind. */
    static int build(Yards x, int yard, int tag, String text) {
        write(x, text);
        return x.build(yard, tag);
    }

    static void write(Yards x, String text) {
        x.end(0);
        append(x, text);
    }

    static void append(Yards x, String text) {
        byte[] signs = text.getBytes(StandardCharsets.ISO_8859_1);
        for (int i = 0; i < signs.length; i += 4) {
            int four = 0;
            for (int k = 0; k < 4 && i + k < signs.length; k++) {
                four |= (signs[i + k] & 255) << 8 * k;
            }
            x.put(four);
        }
    }

    /** A build with its fault's kind and line, and how many steps it did and of these were hits. */
    void build(Yards x, String text, int fault, int line, int steps, int hits) {
        due("build of " + text, build(x, 0, 0, text), fault);
        due("its fault's line of " + text, x.built(0), line);
        due("its steps of " + text, x.built(1), steps);
        due("its hits of " + text, x.built(2), hits);
    }

    /** A tag's tree, as path/ of a directory and path=bytes of a file, with blanks between them. */
    static String tree(Yards x, int yard, int tag) {
        StringBuilder out = new StringBuilder();
        int count = x.image(yard, tag, 2);
        for (int i = 0; i < count; i++) {
            out.append(i == 0 ? "" : " ");
            for (int k = 0; x.entry(yard, tag, i, k, 0) != ImageYard.NONE; k++) {
                out.append((char) x.entry(yard, tag, i, k, 0));
            }
            out.append(x.entry(yard, tag, i, 0, 2) == 1 ? "/" : "=");
            for (int k = 0; k < x.entry(yard, tag, i, 0, 3); k++) {
                out.append((char) x.entry(yard, tag, i, k, 1));
            }
        }
        return out.toString();
    }

    void tree(Yards x, int yard, int tag, String due) {
        String got = tree(x, yard, tag);
        holds("the tree is " + due + " (it is " + got + ")", got.equals(due));
    }

    static byte[] blob(Yards x, int yard, long digest) {
        byte[] bytes = new byte[x.blob(yard, digest)];
        for (int k = 0; k < bytes.length; k++) {
            bytes[k] = (byte) x.byteOf(yard, digest, k);
        }
        return bytes;
    }

    static byte[] journal(Yards x, int yard) {
        byte[] bytes = new byte[x.yard(yard, 2)];
        for (int k = 0; k < bytes.length; k++) {
            bytes[k] = (byte) x.journal(yard, k);
        }
        return bytes;
    }

    static byte[] bytes(int... values) {
        byte[] bytes = new byte[values.length];
        for (int k = 0; k < bytes.length; k++) {
            bytes[k] = (byte) values[k];
        }
        return bytes;
    }
}
