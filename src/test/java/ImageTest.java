/** Promises 6 to 13: tags, images, layers, entries and blobs. */
public final class ImageTest {
    public static void main(String[] args) {
        Check check = new Check();
        tags(check);
        tagsWithoutRoom(check);
        tagArguments(check);
        image(check);
        layer(check);
        entry(check);
        blob(check);
        check.end();
    }

    private static Yards built(int yard, int tag) {
        Yards x = new Yards();
        Check.build(x, yard, tag, "FROM empty\nENV v w\nRUN mkdir d;put d/f xyz\nCOPY g");
        return x;
    }

    private static void tags(Check check) {
        Yards x = built(1, 7);
        long digest = x.tag(1, 7);
        check.holds("a tag tells a digest", digest != 0);
        check.due("the other yard's tag", x.tag(0, 7), 0);
        check.refuses("retag from a tag that tells none", Check.ELEMENT, () -> x.retag(1, 7, 0));
        check.refuses("retag in the other yard", Check.ELEMENT, () -> x.retag(0, 0, 7));
        check.due("a call that throws changes nothing", x.tag(1, 7), digest);
        int size = x.yard(1, 2);
        x.retag(1, 0, 7);
        check.due("retag", x.tag(1, 0), digest);
        check.due("a record of a tag", x.yard(1, 2), size + 15);
        x.retag(1, 0, 7);
        x.retag(1, 7, 7);
        check.due("a tag that tells that already is not written", x.yard(1, 2), size + 15);
        x.untag(1, 7);
        check.due("untag", x.tag(1, 7), 0);
        check.due("a record of a tag that tells none", x.yard(1, 2), size + 22);
        check.due("the other tag still tells", x.tag(1, 0), digest);
        check.refuses("untag again", Check.ELEMENT, () -> x.untag(1, 7));
        check.refuses("untag in the other yard", Check.ELEMENT, () -> x.untag(0, 0));
        check.due("the blobs are there", x.yard(1, 0), 3);
        Check.build(x, 1, 0, "FROM empty");
        check.holds("a build tells another one", x.tag(1, 0) != digest);
        x.retag(1, 3, 0);
        Check.build(x, 1, 0, "FROM 3\nCOPY a");
        check.due("retag is for the image, not for the tag", x.tag(1, 3), Model.digest("M\0\0"));
    }

    private static void tagsWithoutRoom(Check check) {
        Yards x = new Yards();
        Fill.journal(x, 0, 29);
        x.retag(0, 1, 0);
        int other = 7;
        check.refuses("retag without room", Check.UNSUPPORTED, () -> x.retag(0, 1, other));
        check.refuses("a tag without an image goes before", Check.ELEMENT, () -> x.retag(0, 1, 5));
        check.holds("nothing is changed", x.tag(0, 1) != x.tag(0, other));
        x.retag(0, 0, 0);
        check.due("the journal stays", x.yard(0, 2), 40000 - 14);
        x.untag(0, 1);
        check.due("room for a tag that tells none", x.yard(0, 2), 40000 - 7);
        x.untag(0, 0);
        check.due("the journal is full", x.yard(0, 2), 40000);
        check.refuses("untag without room", Check.UNSUPPORTED, () -> x.untag(0, 7));
        check.refuses("a tag without an image goes before", Check.ELEMENT, () -> x.untag(0, 0));
        check.holds("nothing is changed", x.tag(0, 7) != 0);
        Yards y = new Yards();
        Fill.journal(y, 0, 15);
        y.retag(0, 5, 0);
        check.due("room for a tag", y.yard(0, 2), 40000);
        check.due("its last byte is a sum", y.journal(0, 39999), Check.journal(y, 0)[39999] & 255);
        check.due("the tag tells", y.tag(0, 5), y.tag(0, 0));
    }

    private static void tagArguments(Check check) {
        Yards x = built(0, 0);
        int[][] wrong = {{-1, 0}, {2, 0}, {0, -1}, {0, 8}, {1, 8}, {Integer.MIN_VALUE, 0}, {0, Integer.MAX_VALUE}};
        for (int[] two : wrong) {
            check.refuses("tag", Check.ARGUMENT, () -> x.tag(two[0], two[1]));
            check.refuses("untag", Check.ARGUMENT, () -> x.untag(two[0], two[1]));
            check.refuses("retag", Check.ARGUMENT, () -> x.retag(two[0], two[1], 0));
            check.refuses("retag from", Check.ARGUMENT, () -> x.retag(two[0], 0, two[1] == 0 ? -1 : two[1]));
            check.refuses("image", Check.ARGUMENT, () -> x.image(two[0], two[1], 0));
            check.refuses("layer", Check.ARGUMENT, () -> x.layer(two[0], two[1], 0));
            check.refuses("entry", Check.ARGUMENT, () -> x.entry(two[0], two[1], 0, 0, 0));
        }
    }

    private static void image(Check check) {
        Yards x = built(0, 3);
        check.due("layers", x.image(0, 3, 0), 2);
        check.due("settings", x.image(0, 3, 1), 1);
        check.due("entries", x.image(0, 3, 2), 3);
        check.refuses("image, what = 3", Check.ARGUMENT, () -> x.image(0, 3, 3));
        check.refuses("image, what = -1", Check.ARGUMENT, () -> x.image(0, 3, -1));
        check.refuses("image of none", Check.ELEMENT, () -> x.image(0, 2, 0));
        check.refuses("image of none goes before what", Check.ELEMENT, () -> x.image(0, 2, 3));
        check.refuses("image of the other yard", Check.ELEMENT, () -> x.image(1, 3, 0));
    }

    private static void layer(Check check) {
        Yards x = built(0, 3);
        check.due("layer 0", x.layer(0, 3, 0), Model.digest("\1\1d\0\0\2\3d/f\3\0xyz"));
        check.due("layer 1", x.layer(0, 3, 1), Model.digest("\2\1g\0\0"));
        check.refuses("layer 2", Check.INDEX, () -> x.layer(0, 3, 2));
        check.refuses("layer -1", Check.INDEX, () -> x.layer(0, 3, -1));
        check.refuses("layer of none", Check.ELEMENT, () -> x.layer(0, 4, 9));
    }

    private static void entry(Check check) {
        Yards x = built(0, 3);
        check.tree(x, 0, 3, "d/ d/f=xyz g=");
        check.due("sign 0", x.entry(0, 3, 1, 0, 0), 'd');
        check.due("sign 1", x.entry(0, 3, 1, 1, 0), '/');
        check.due("sign 2", x.entry(0, 3, 1, 2, 0), 'f');
        check.due("sign 3", x.entry(0, 3, 1, 3, 0), ImageYard.NONE);
        check.due("sign far behind", x.entry(0, 3, 1, Integer.MAX_VALUE, 0), ImageYard.NONE);
        check.due("byte 2", x.entry(0, 3, 1, 2, 1), 'z');
        check.due("byte 3", x.entry(0, 3, 1, 3, 1), ImageYard.NONE);
        check.due("byte far behind", x.entry(0, 3, 1, Integer.MAX_VALUE, 1), ImageYard.NONE);
        check.due("a directory's byte", x.entry(0, 3, 0, 0, 1), ImageYard.NONE);
        check.due("an empty file's byte", x.entry(0, 3, 2, 0, 1), ImageYard.NONE);
        check.due("kind of a directory", x.entry(0, 3, 0, 99, 2), 1);
        check.due("kind of a file", x.entry(0, 3, 1, 99, 2), 2);
        check.due("bytes of a directory", x.entry(0, 3, 0, 99, 3), 0);
        check.due("bytes of a file", x.entry(0, 3, 1, 99, 3), 3);
        check.refuses("entry 3", Check.INDEX, () -> x.entry(0, 3, 3, 0, 0));
        check.refuses("entry -1", Check.INDEX, () -> x.entry(0, 3, -1, 0, 0));
        for (int what = 0; what < 6; what++) {
            int that = what;
            check.refuses("k = -1", Check.INDEX, () -> x.entry(0, 3, 0, -1, that));
        }
        check.refuses("what = 4", Check.ARGUMENT, () -> x.entry(0, 3, 0, 0, 4));
        check.refuses("what = -1", Check.ARGUMENT, () -> x.entry(0, 3, 0, 0, -1));
        check.refuses("no such entry goes before what", Check.INDEX, () -> x.entry(0, 3, 3, 0, 4));
        check.refuses("entry of none goes before all", Check.ELEMENT, () -> x.entry(0, 2, 9, -1, 4));
    }

    private static void blob(Check check) {
        Yards x = built(0, 3);
        long digest = x.layer(0, 3, 0);
        byte[] due = Check.bytes(1, 1, 'd', 0, 0, 2, 3, 'd', '/', 'f', 3, 0, 'x', 'y', 'z');
        check.due("blob", x.blob(0, digest), due.length);
        check.holds("its bytes", java.util.Arrays.equals(Check.blob(x, 0, digest), due));
        check.due("the image is a blob", x.blob(0, x.tag(0, 3)), 3 + 16 + 4);
        check.due("a byte over 127", x.byteOf(0, x.tag(0, 3), 9), digest >>> 56);
        check.due("the other yard has none such", x.blob(1, digest), ImageYard.NONE);
        check.due("no such blob", x.blob(0, 0), ImageYard.NONE);
        check.refuses("byteOf of no such blob", Check.ELEMENT, () -> x.byteOf(0, 0, 0));
        check.refuses("byteOf in the other yard", Check.ELEMENT, () -> x.byteOf(1, digest, 0));
        check.refuses("no such blob goes before", Check.ELEMENT, () -> x.byteOf(0, 0, -1));
        check.refuses("byteOf behind its end", Check.INDEX, () -> x.byteOf(0, digest, due.length));
        check.refuses("byteOf ahead of its beginning", Check.INDEX, () -> x.byteOf(0, digest, -1));
        check.refuses("byteOf far behind", Check.INDEX, () -> x.byteOf(0, digest, Integer.MAX_VALUE));
        check.refuses("blob of yard 2", Check.ARGUMENT, () -> x.blob(2, digest));
        check.refuses("blob of yard -1", Check.ARGUMENT, () -> x.blob(-1, digest));
        check.refuses("byteOf of yard 2", Check.ARGUMENT, () -> x.byteOf(2, 0, -1));
    }
}
