import java.math.BigInteger;
import java.nio.charset.StandardCharsets;

/** Terms 2 at its edges: the digest's arithmetic, sixty blobs, twelve layers, six settings, eight tags. */
public final class BlobEdgesTest {
    private static final String START = "FROM empty\n";
    private static final BigInteger LONGS = BigInteger.ONE.shiftLeft(64);

    public static void main(String[] args) {
        Check check = new Check();
        digests(check);
        noBytes(check);
        sixtyBlobsByLayers(check);
        sixtyBlobsByImages(check);
        sixtyBlobsByMessages(check);
        sixtyBlobsByOffers(check);
        notKeptAgain(check);
        blobsThatGoLeaveRoom(check);
        eachYardHasSixty(check);
        twelveLayers(check);
        twelveLayersAndMore(check);
        sixSettings(check);
        greatestImage(check);
        orderOfSettings(check);
        eightTags(check);
        check.end();
    }

    /** The digest in whole numbers, each step cut to 64 bits by itself. */
    private static long digest(byte[] bytes) {
        BigInteger h = BigInteger.valueOf(-7046029254386353131L).mod(LONGS);
        for (byte b : bytes) {
            h = h.xor(BigInteger.valueOf(b & 255)).multiply(BigInteger.valueOf(1099511628211L)).mod(LONGS);
        }
        h = h.xor(BigInteger.valueOf(bytes.length)).multiply(BigInteger.valueOf(-2960836687156293229L)).mod(LONGS);
        return h.xor(h.shiftRight(32)).longValue();
    }

    /** "h xor b, times ...; then h xor how many bytes there are ...; then h xor (h without sign down by 32). (All wrapping.)" */
    private static void digests(Check check) {
        Yards x = new Yards();
        Check.build(x, 0, 0, START + "ENV v ~\nCOPY a !~\nCOPY b\nCOPY b\nRUN mkdir d;put d/e " + "z".repeat(99)
                + ";join d/e d/e;join d/e d/e");
        boolean isBelowZero = false;
        boolean hasHighByte = false;
        for (int i = 0; i < 4; i++) {
            byte[] layer = Check.blob(x, 0, x.layer(0, 0, i));
            check.due("the digest of layer " + i, x.layer(0, 0, i), digest(layer));
            isBelowZero |= x.layer(0, 0, i) < 0;
        }
        byte[] image = Check.blob(x, 0, x.tag(0, 0));
        check.due("the digest of the image", x.tag(0, 0), digest(image));
        for (byte b : image) {
            hasHighByte |= b < 0;
        }
        check.holds("digests below 0, and bytes over 127, are among them", isBelowZero && hasHighByte);
        check.due("the longest layer", x.blob(0, x.layer(0, 0, 3)), 5 + 1 - 1 + 5 + 2 + 396);
    }

    /** The digest of no bytes, which a step that changes nothing has. */
    private static void noBytes(Check check) {
        Yards x = new Yards();
        Check.build(x, 0, 0, START + "RUN mkdir a;rm a");
        check.due("its digest", x.layer(0, 0, 0), digest(new byte[0]));
        check.due("it is a blob", x.blob(0, x.layer(0, 0, 0)), 0);
        check.refuses("it has no byte 0", Check.INDEX, () -> x.byteOf(0, x.layer(0, 0, 0), 0));
        check.due("its record and the key's and the image's and the tag's", x.yard(0, 2), 6 + 22 + 6 + 11 + 15);
        check.due("nothing is in the tree", x.image(0, 0, 2), 0);
        check.due("blobs", x.yard(0, 0), 2);
    }

    /** "A YARD keeps at most 60 BLOBS" */
    private static void sixtyBlobsByLayers(Check check) {
        Yards x = new Yards();
        Fill.blobs(x, 0, 0, 59);
        int size = x.yard(0, 2);
        check.build(x, START + "COPY a 1\nCOPY a 2", 5, 2, 1, 0);
        check.due("the 60th was kept", x.yard(0, 0), 60);
        check.due("it and its key were written", x.yard(0, 2), size + 12 + 22);
        Yards y = new Yards();
        Fill.blobs(y, 0, 0, 60);
        String all = Check.all(y);
        check.build(y, START + "COPY a 1", 5, 1, 0, 0);
        check.due("no 61st", y.yard(0, 0), 60);
        check.holds("nothing but built is other", sameYards(all, Check.all(y)));
    }

    private static boolean sameYards(String one, String other) {
        return one.substring(one.indexOf("\nyard 0")).equals(other.substring(other.indexOf("\nyard 0")));
    }

    private static void sixtyBlobsByImages(Check check) {
        Yards x = new Yards();
        Fill.blobs(x, 0, 0, 59);
        check.due("a 60th", Check.build(x, 0, 1, START + "ENV a b\n\n"), 0);
        check.due("blobs", x.yard(0, 0), 60);
        check.due("a 61st", Check.build(x, 0, 2, START + "ENV a c\n\n"), 5);
        check.due("at the last line that has signs", x.built(0), 1);
        check.due("its tag tells none", x.tag(0, 2), 0);
        check.due("a tag that tells stays", Check.build(x, 0, 1, START + "ENV a c"), 5);
        check.due("it tells the 60th", x.blob(0, x.tag(0, 1)), 7);
        check.due("blobs", x.yard(0, 0), 60);
        check.due("FROM the image itself", Check.build(x, 0, 2, "FROM 1"), 0);
    }

    private static void sixtyBlobsByMessages(Check check) {
        for (int have = 57; have <= 60; have++) {
            Yards x = new Yards();
            Check.build(x, 0, 0, START + "COPY a 1\nCOPY a 2");
            Fill.blobs(x, 1, 7, have);
            x.send(0, 0, 1);
            int[] messages = {2, 3, 2, 3, 4};
            int most = have == 60 ? 2 : have == 59 ? 4 : have == 58 ? 4 : 5;
            for (int i = 0; i < most; i++) {
                check.due("message " + i + " with " + have, x.deliver(0), messages[i]);
            }
            if (have > 57) {
                check.due("no room, with " + have, x.deliver(0), 0);
            }
            check.due("blobs there", x.yard(1, 0), 60);
            check.holds("the tag there", x.tag(1, 1) == (have == 57 ? x.tag(0, 0) : 0));
            check.due("whether it is done", x.transfer(0, 3), 0);
            check.due("whether it is open", x.transfer(0, 0), have == 57 ? 4 : 0);
            check.due("how many were sent", x.transfer(0, 2), have == 60 ? 1 : 2);
        }
    }

    /** An offer whose layers are there already. */
    private static void sixtyBlobsByOffers(Check check) {
        for (int have = 59; have <= 60; have++) {
            Yards x = new Yards();
            Check.build(x, 0, 0, START + "ENV a b");
            Fill.blobs(x, 1, 7, have);
            x.send(0, 0, 1);
            check.due("the offer, with " + have, x.deliver(0), have == 59 ? 4 : 0);
            check.due("blobs there", x.yard(1, 0), 60);
            check.due("the tag there", x.tag(1, 1), have == 59 ? x.tag(0, 0) : 0);
        }
    }

    /** "one that is there already is not kept again" */
    private static void notKeptAgain(Check check) {
        Yards x = new Yards();
        Check.build(x, 1, 0, START + "COPY q 0");
        Fill.blobs(x, 0, 0, 60);
        int size = x.yard(0, 2);
        int keys = x.yard(0, 1);
        check.due("a layer and its key that are there", Check.build(x, 0, 1, START + "COPY q 0"), 5);
        check.due("nothing was written", x.yard(0, 2), size);
        check.due("a layer that is there, of another key", Check.build(x, 0, 1, START + "RUN put q 0"), 5);
        check.due("the key was written", x.yard(0, 2), size + 22);
        check.due("keys", x.yard(0, 1), keys + 1);
        check.due("blobs", x.yard(0, 0), 60);
        x.retag(0, 5, 0);
        x.untag(0, 0);
        size = x.yard(0, 2);
        check.due("an image that is there", Check.build(x, 0, 0, "FROM 5"), 0);
        check.due("the tag's record alone was written", x.yard(0, 2), size + 15);
        check.due("blobs", x.yard(0, 0), 60);
        check.due("the last of the twelve layers", x.image(0, 0, 0) > 0 ? 1 : 0, 1);
    }

    /** A collection of one image in a full yard makes room for as many. */
    private static void blobsThatGoLeaveRoom(Check check) {
        Yards x = new Yards();
        Check.build(x, 0, 1, START + "COPY a 1");
        Fill.blobs(x, 0, 0, 60);
        x.untag(0, 1);
        check.due("no room", Check.build(x, 0, 1, START + "COPY a 2"), 5);
        int went = x.collect(0);
        check.holds("some went", went >= 2);
        check.due("blobs", x.yard(0, 0), 60 - went);
        check.due("room", Check.build(x, 0, 1, START + "COPY a 2"), 0);
        Fill.blobs(x, 0, 2, 60, 'r');
        check.due("up to sixty", x.yard(0, 0), 60);
        check.due("and no more", Check.build(x, 0, 1, START + "COPY a 3"), 5);
    }

    private static void eachYardHasSixty(Check check) {
        Yards x = new Yards();
        Fill.blobs(x, 0, 0, 60);
        check.due("the other yard has room", Check.build(x, 1, 0, START + "COPY a 2"), 0);
        check.due("blobs", x.yard(1, 0), 2);
        check.due("and here is none", Check.build(x, 0, 0, START + "COPY a 2"), 5);
    }

    /** "how many layers, at most 12", "a thirteenth layer" */
    private static void twelveLayers(Check check) {
        Yards x = new Yards();
        String eleven = START + "COPY a\n".repeat(11);
        check.build(x, eleven + "RUN put b", 0, -1, 12, 0);
        check.due("layers", x.image(0, 0, 0), 12);
        check.due("byte 1 of the image", x.byteOf(0, x.tag(0, 0), 1), 12);
        check.due("its length", x.blob(0, x.tag(0, 0)), 3 + 96);
        check.due("the last layer", x.layer(0, 0, 11), Model.digest("\2\1b\0\0"));
        check.refuses("a thirteenth", Check.INDEX, () -> x.layer(0, 0, 12));
        long told = x.tag(0, 0);
        int size = x.yard(0, 2);
        String[] lines = {"COPY b", "RUN put c", "COPY", "COPY A", "RUN", "RUN wrong", "RUN rm nothing"};
        for (String line : lines) {
            check.build(x, eleven + "RUN put b\n" + line, 4, 13, 12, 12);
        }
        check.due("nothing was written", x.yard(0, 2), size);
        check.due("the tag tells the same", x.tag(0, 0), told);
        check.build(x, eleven + "RUN put b\nENV a b", 0, -1, 12, 12);
    }

    private static void twelveLayersAndMore(Check check) {
        Yards x = new Yards();
        check.build(x, START + "COPY a\n".repeat(11), 0, -1, 11, 0);
        check.build(x, "FROM 0\nCOPY b", 0, -1, 1, 0);
        check.build(x, "FROM 0\nCOPY c", 4, 1, 0, 0);
        check.build(x, "FROM 0\nRUN", 4, 1, 0, 0);
        check.build(x, "FROM 0\nRUNX put c", 1, 1, 0, 0);
        check.build(x, "FROM 0\nENV c d", 0, -1, 0, 0);
        check.due("layers", x.image(0, 0, 0), 12);
        check.due("settings", x.image(0, 0, 1), 1);
    }

    private static final String SIX = START + "ENV b 1\nENV c 2\nENV d 3\nENV e 4\nENV f 5\nENV g 6\n";

    /** "how many SETTINGS, at most 6", "a seventh setting" */
    private static void sixSettings(Check check) {
        Yards x = new Yards();
        check.build(x, SIX, 0, -1, 0, 0);
        check.due("settings", x.image(0, 0, 1), 6);
        check.due("their number in the image", x.byteOf(0, x.tag(0, 0), 2), 6);
        String[] names = {"a", "bb", "h", "gg", "z"};
        for (String name : names) {
            check.build(x, SIX + "ENV " + name + " 7", 4, 7, 0, 0);
            check.build(x, SIX + "ENV " + name + " 7 8", 1, 7, 0, 0);
            check.build(x, "FROM 0\nENV " + name + " 7", 4, 1, 0, 0);
        }
        String[] there = {"b", "d", "g"};
        for (String name : there) {
            Yards y = new Yards();
            check.build(y, SIX + "ENV " + name + " 9\nCOPY a $b$c$d$e$f$g", 0, -1, 1, 0);
            check.due("settings", y.image(0, 0, 1), 6);
            check.due("the value set anew", y.entry(0, 0, 0, name.charAt(0) - 'b', 1), '9');
        }
    }

    /** The greatest image that there is: twelve layers, six settings with the longest names and values. */
    private static void greatestImage(Check check) {
        Yards x = new Yards();
        StringBuilder text = new StringBuilder(START);
        StringBuilder due = new StringBuilder();
        for (char c = 'a'; c < 'g'; c++) {
            text.append("ENV ").append("abcdefg").append(c).append(" 12345678901").append(c).append('\n');
            due.append("\10abcdefg").append(c).append("\01412345678901").append(c);
        }
        check.build(x, text + "COPY a $abcdefgf\n" + "COPY a\n".repeat(11), 0, -1, 12, 0);
        StringBuilder layers = new StringBuilder("M\14");
        for (int i = 0; i < 12; i++) {
            layers.append(Model.eight(x.layer(0, 0, i)));
        }
        String got = new String(Check.blob(x, 0, x.tag(0, 0)), StandardCharsets.ISO_8859_1);
        check.holds("its bytes", got.equals(layers + "\6" + due));
        check.due("their number", got.length(), 3 + 96 + 6 * 22);
        TreeEdgesTest.transfer(check, x, 0, 0);
        check.due("it goes to the other yard whole", x.tag(1, 0), x.tag(0, 0));
        check.due("settings there", x.image(1, 0, 1), 6);
        check.due("FROM it there", Check.build(x, 1, 1, "FROM 0\nENV abcdefgb 1"), 0);
        check.due("its settings", x.image(1, 1, 1), 6);
        check.due("its bytes", x.blob(1, x.tag(1, 1)), 3 + 96 + 6 * 22 - 11);
    }

    /** "in the order of their names (one that ends goes first)" */
    private static void orderOfSettings(Check check) {
        Yards x = new Yards();
        Check.build(x, 0, 0, START + "ENV ba 1\nENV abc 2\nENV b 3\nENV ab 4\nENV bb 5\nENV a 6");
        String got = new String(Check.blob(x, 0, x.tag(0, 0)), StandardCharsets.ISO_8859_1);
        check.holds("the image's settings in order",
                got.equals("M\0\6\1a\0016\2ab\0014\3abc\0012\1b\0013\2ba\0011\2bb\0015"));
    }

    /** "Eight TAGS, 0 .. 7, each tell the digest of an image, or none." */
    private static void eightTags(Check check) {
        Yards x = new Yards();
        for (int tag = 0; tag < 8; tag++) {
            check.due("build for tag " + tag, Check.build(x, 0, tag, START + "ENV t t" + tag), 0);
        }
        for (int tag = 0; tag < 8; tag++) {
            check.due("tag " + tag, x.tag(0, tag), Model.digest("M\0\1\1t\2t" + tag));
            check.due("the other yard's", x.tag(1, tag), 0);
        }
        for (int tag = 0; tag < 8; tag++) {
            check.due("FROM " + tag, Check.build(x, 0, tag, "FROM " + tag + "\nCOPY a $t"), 0);
            check.tree(x, 0, tag, "a=t" + tag);
        }
        check.due("FROM 8", Check.build(x, 0, 3, "FROM 8"), 1);
        check.refuses("tag 8", Check.ARGUMENT, () -> x.tag(0, 8));
        check.refuses("tag -1", Check.ARGUMENT, () -> x.tag(0, -1));
        for (int tag = 0; tag < 8; tag++) {
            x.untag(0, tag);
            check.due("untag " + tag, x.tag(0, tag), 0);
            check.holds("the next one tells", tag == 7 || x.tag(0, tag + 1) != 0);
        }
    }
}
