/** Rows of bytes that have one digest (they were searched for), and the trees that come of them. */
public final class CollisionTest {
    /** The layer of "rm d;put t FIRST" has the digest of that of "put t SECOND". */
    static final String FIRST = "rbqp6BNV5uC";
    static final String SECOND = "IGvWU0+iRpA";
    private static final long LAYERS_DIGEST = 7282341033949960836L;

    /** The image with this value for v and no layers has the digest of the layer of "put t TEXT". */
    static final String VALUE = "NIppwsAqrJF";
    static final String TEXT = "6Y8-Lmq-y3A";
    private static final long IMAGES_DIGEST = -135424793923166049L;

    /** The layers of "put t ONE" and "put t OTHER" have one digest, and as many bytes. */
    static final String ONE = "AFHCy4dv17D";
    static final String OTHER = "M9ItB1BdRwF";

    /** The layer of "rm d;put d;put t FILED", with a directory d, has the digest of that of "put t UNFILED". */
    static final String FILED = "k5bKAaE8cFF";
    static final String UNFILED = "p6ATaxCbkHK";

    public static void main(String[] args) {
        Check check = new Check();
        refused(check);
        refusedOfOneLength(check);
        otherLayer(check);
        greatTree(check);
        noItems(check);
        refusedImage(check);
        refusedBlob(check);
        oneKey(check);
        check.end();
    }

    private static void refused(Check check) {
        Yards x = new Yards();
        Check.build(x, 0, 1, "FROM empty\nRUN mkdir d\nRUN rm d;put t " + FIRST);
        check.due("the digest", x.layer(0, 1, 1), LAYERS_DIGEST);
        int blobs = x.yard(0, 0);
        int size = x.yard(0, 2);
        check.build(x, "FROM empty\nCOPY t " + SECOND, 5, 1, 0, 0);
        check.due("it isn't kept", x.yard(0, 0), blobs);
        check.due("nor its key", x.yard(0, 2), size);
        check.due("the first one's bytes", x.byteOf(0, LAYERS_DIGEST, 0), 3);
    }

    private static void refusedOfOneLength(Check check) {
        Yards x = new Yards();
        Check.build(x, 0, 1, "FROM empty\nCOPY t " + ONE);
        Check.build(x, 1, 1, "FROM empty\nCOPY t " + OTHER);
        check.due("one digest", x.layer(0, 1, 0), x.layer(1, 1, 0));
        check.due("and so one image", x.tag(0, 1), x.tag(1, 1));
        check.tree(x, 0, 1, "t=" + ONE);
        check.tree(x, 1, 1, "t=" + OTHER);
        check.build(x, "FROM empty\nCOPY t " + OTHER, 5, 1, 0, 0);
        check.build(x, "FROM empty\nRUN put t " + ONE, 0, -1, 1, 0);
        check.due("three records more of the same blobs", x.yard(0, 0), 2);
    }

    private static void otherLayer(Check check) {
        Yards x = new Yards();
        Check.build(x, 0, 1, "FROM empty\nRUN mkdir d;put d/e\nRUN rm d;put t " + FIRST);
        Check.build(x, 1, 1, "FROM empty\nCOPY t " + SECOND);
        check.due("the digest", x.layer(1, 1, 0), LAYERS_DIGEST);
        x.send(0, 1, 2);
        int[] messages = {2, 3, 4, 0};
        for (int message : messages) {
            check.due("only the first layer is wanted", x.deliver(0), message);
        }
        check.due("the images are one", x.tag(1, 2), x.tag(0, 1));
        check.tree(x, 0, 1, "t=" + FIRST);
        check.tree(x, 1, 2, "d/ d/e= t=" + SECOND);
    }

    /** The other yard's layer doesn't remove the directory, so its files grow more and more. */
    private static void greatTree(Check check) {
        Yards x = new Yards();
        String rm = "\nRUN rm d;put t " + FIRST;
        check.due("one", Check.build(x, 0, 1, "FROM empty\n" + many("mkdir d", 'a') + rm), 0);
        check.due("two", Check.build(x, 0, 1, "FROM 1\n" + many("rm t;mkdir d", 'b') + rm), 0);
        check.due("three", Check.build(x, 0, 2, "FROM 1\n" + many("rm t;mkdir d", 'c') + rm), 0);
        check.due("four", Check.build(x, 0, 3, "FROM 2\n" + many("rm t;mkdir d", 'd') + "\nRUN rm d/d5"), 0);
        Check.build(x, 1, 1, "FROM empty\nCOPY t " + SECOND);
        for (int tag = 1; tag <= 3; tag++) {
            x.send(0, tag, tag + 1);
            while (x.deliver(0) != 0) {
                check.holds("it is open", x.transfer(0, 0) != 0);
            }
        }
        int each = 23;
        check.due("here", x.image(0, 1, 2), 1);
        check.due("there", x.image(1, 2, 2), 2 + 2 * each);
        check.due("there", x.image(1, 3, 2), 2 + 3 * each);
        check.due("an 81st entry is left out", x.image(1, 4, 2), 80);
        check.due("here", x.image(0, 3, 2), each);
        check.due("too great a tree", Check.build(x, 1, 5, "FROM 2\nRUN rm d"), 4);
        check.due("its line", x.built(0), 1);
        check.due("no step is needed", Check.build(x, 1, 5, "FROM 4\nENV a b"), 0);
        check.due("its entries", x.image(1, 5, 2), 80);
        check.refuses("an 81st entry", Check.INDEX, () -> x.entry(1, 5, 80, 0, 0));
        check.due("the last entry is of the last layers", x.entry(1, 5, 79, 0, 0), 'd');
    }

    private static String many(String start, char name) {
        StringBuilder out = new StringBuilder("RUN ").append(start);
        for (int i = 0; i < 17; i++) {
            out.append(";put d/").append(name).append((char) ('a' + i));
        }
        out.append("\nRUN put d/").append(name).append('0');
        for (int i = 1; i < 6; i++) {
            out.append(";put d/").append(name).append(i);
        }
        return out.toString();
    }

    private static void noItems(Check check) {
        Yards x = new Yards();
        Check.build(x, 0, 1, "FROM empty\nCOPY a 1\nCOPY t " + TEXT + "\nCOPY b 2");
        check.due("the layer", x.layer(0, 1, 1), IMAGES_DIGEST);
        Check.build(x, 1, 1, "FROM empty\nENV v " + VALUE);
        check.due("the image", x.tag(1, 1), IMAGES_DIGEST);
        x.send(0, 1, 2);
        while (x.deliver(0) != 0) {
            check.holds("it is open", x.transfer(0, 0) != 0);
        }
        check.due("two layers were sent", x.transfer(0, 2), 2);
        check.tree(x, 0, 1, "a=1 b=2 t=" + TEXT);
        check.tree(x, 1, 2, "a=1 b=2");
        x.untag(1, 1);
        check.due("the image stays as a layer", x.collect(1), 0);
    }

    private static void refusedImage(Check check) {
        Yards x = new Yards();
        Check.build(x, 0, 1, "FROM empty\nCOPY t " + TEXT);
        check.build(x, "FROM empty\nENV v " + VALUE + "\n", 5, 1, 0, 0);
        check.due("the tag tells none", x.tag(0, 0), 0);
        Check.build(x, 1, 1, "FROM empty\nENV v " + VALUE);
        x.send(1, 1, 0);
        check.due("the taker refuses the image", x.deliver(0), 0);
        check.due("the tag tells none", x.tag(0, 0), 0);
        check.due("it isn't done", x.transfer(0, 3), 0);
    }

    private static void refusedBlob(Check check) {
        Yards x = new Yards();
        Check.build(x, 0, 1, "FROM empty\nCOPY t " + TEXT);
        x.send(0, 1, 0);
        check.due("WANT", x.deliver(0), 2);
        check.due("BLOB", x.deliver(0), 3);
        Check.build(x, 1, 1, "FROM empty\nENV v " + VALUE);
        check.due("the taker refuses the blob", x.deliver(0), 0);
        check.due("one was sent", x.transfer(0, 2), 1);
        check.due("it isn't done", x.transfer(0, 3), 0);
    }

    /** The keys of these two steps, the first of their builds, are one. */
    private static void oneKey(Check check) {
        Yards x = new Yards();
        check.build(x, "FROM empty\nCOPY t 641MEzr-pVF", 0, -1, 1, 0);
        long digest = x.tag(0, 0);
        check.build(x, "FROM empty\nCOPY t Ltn4oTt8GQC", 0, -1, 1, 1);
        check.due("a hit, whatever the line says", x.tag(0, 0), digest);
        check.tree(x, 0, 0, "t=641MEzr-pVF");
        check.due("one key", x.yard(0, 1), 1);
    }
}
