/** Terms 4 and promises 14 to 18 at their edges: records, 40000 bytes, what is synced, crashes and collections. */
public final class JournalEdgesTest {
    private static final String START = "FROM empty\n";
    private static final int[] ENDS = {0, 12, 34, 51, 66, 81, 88, 94, 116, 141, 156};
    private static final int ALL = 156;

    public static void main(String[] args) {
        Check check = new Check();
        recordsOfAllKinds(check);
        recordsOfLongBlobs(check);
        fortyThousandBytes(check);
        roomForEachRecord(check);
        fullJournalThatIsCollected(check);
        synced(check);
        syncedByACollection(check);
        syncedByACrash(check);
        cutAtEachByte(check);
        spoiltAtEachByte(check);
        spoiltOutside(check);
        nothingIsLeft(check);
        syncedBytesAreSafe(check);
        crashOfAFullJournal(check);
        backFromACrash(check);
        crashOfOneYard(check);
        collectNothing(check);
        collectByTags(check);
        collectKeys(check);
        collectBlobsOfAllLengths(check);
        collectOffers(check);
        collectTwoOffers(check);
        ends(check);
        check.end();
    }

    /** Records of all four kinds, one behind the other; ENDS says where they end. */
    private static Yards used() {
        Yards x = new Yards();
        Check.build(x, 0, 2, START + "COPY a x");
        x.retag(0, 7, 2);
        x.untag(0, 2);
        Check.build(x, 0, 0, START + "COPY a x\nCOPY a x");
        return x;
    }

    private static String record(int kind, String bytes) {
        String head = (char) kind + "";
        for (int i = 0; i < 2; i++) {
            head += (char) (bytes.length() % 256) + "" + (char) (bytes.length() / 256);
        }
        int sum = 0;
        for (char b : (head + bytes).toCharArray()) {
            sum += b;
        }
        return head + bytes + (char) (sum % 256);
    }

    private static String text(byte[] bytes) {
        return new String(bytes, java.nio.charset.StandardCharsets.ISO_8859_1);
    }

    /** "a kind, two bytes for how many bytes it has, these two once more, the bytes, and a sum byte" */
    private static void recordsOfAllKinds(Check check) {
        Yards x = used();
        String layer = "\2\1a\1\0x";
        String image = "M\1" + Model.eight(Model.digest(layer)) + "\0";
        String other = "M\2" + Model.eight(Model.digest(layer)) + Model.eight(Model.digest("")) + "\0";
        String[] due = {
            record(1, layer),
            record(4, Model.eight(Model.digest("M\0\0COPY a x")) + Model.eight(Model.digest(layer))),
            record(1, image),
            record(2, "\2" + Model.eight(Model.digest(image))),
            record(2, "\7" + Model.eight(Model.digest(image))),
            record(3, "\2"),
            record(1, ""),
            record(4, Model.eight(Model.digest(image + "COPY a x")) + Model.eight(Model.digest(""))),
            record(1, other) + record(2, "\0" + Model.eight(Model.digest(other))),
        };
        String journal = text(Check.journal(x, 0));
        StringBuilder all = new StringBuilder();
        for (int i = 0; i < due.length; i++) {
            all.append(due[i]);
            check.holds("record " + i, journal.startsWith(all.toString()));
            check.due("the end of record " + i, all.length(), ENDS[i == 8 ? 10 : i + 1]);
        }
        check.due("no more", journal.length(), all.length());
        check.due("the other yard's journal", x.yard(1, 2), 0);
    }

    /** Lengths of two bytes, and sums that are over 255. */
    private static void recordsOfLongBlobs(Check check) {
        int[] counts = {250, 251, 255, 256, 800, 1000};
        for (int count : counts) {
            Yards x = new Yards();
            String path = START + "RUN put a " + "z".repeat(count / 8) + ";join a a;join a a;join a a;add a " + "~".repeat(count % 8);
            Check.build(x, 0, 0, path);
            String layer = "\2\1a" + (char) (count % 256) + (char) (count / 256) + "z".repeat(count / 8 * 8) + "~".repeat(count % 8);
            check.holds("the record of " + count, text(Check.journal(x, 0)).startsWith(record(1, layer)));
            check.due("a crash leaves it", x.crash(0, layer.length() + 6, -1), layer.length() + 6);
            check.due("its bytes", x.blob(0, Model.digest(layer)), count + 5);
        }
    }

    /** "a row of at most 40000 bytes" */
    private static void fortyThousandBytes(Check check) {
        Yards x = new Yards();
        Fill.journal(x, 0, 0);
        check.due("40000 bytes", x.yard(0, 2), 40000);
        check.due("none synced", x.yard(0, 3), 0);
        check.refuses("journal(40000)", Check.INDEX, () -> x.journal(0, 40000));
        byte[] journal = Check.journal(x, 0);
        int at = 0;
        while (at < journal.length) {
            int count = (journal[at + 1] & 255) + 256 * (journal[at + 2] & 255);
            int sum = 0;
            for (int k = at; k < at + 5 + count; k++) {
                sum += journal[k] & 255;
            }
            check.due("the sum of the record at " + at, journal[at + 5 + count] & 255, sum % 256);
            at += 6 + count;
        }
        check.due("the last record ends with it", at, 40000);
        Yards other = new Yards();
        Fill.journal(other, 1, 0);
        check.due("in the other yard", other.yard(1, 2), 40000);
        check.due("this one has room", Check.build(other, 0, 0, START + "COPY a"), 0);
    }

    /** "a record for which there is no room isn't written, and what it was for not done": of tags, here. */
    private static void roomForEachRecord(Check check) {
        for (int left = 14; left <= 15; left++) {
            Yards x = new Yards();
            Fill.journal(x, 0, left);
            if (left < 15) {
                check.refuses("retag with " + left, Check.UNSUPPORTED, () -> x.retag(0, 3, 0));
            } else {
                x.retag(0, 3, 0);
            }
            check.due("the tag", x.tag(0, 3), left < 15 ? 0 : x.tag(0, 0));
            check.due("the journal", x.yard(0, 2), left < 15 ? 40000 - left : 40000);
        }
        for (int left = 6; left <= 7; left++) {
            Yards x = new Yards();
            Fill.journal(x, 0, left);
            if (left < 7) {
                check.refuses("untag with " + left, Check.UNSUPPORTED, () -> x.untag(0, 0));
            } else {
                x.untag(0, 0);
            }
            check.holds("the tag", x.tag(0, 0) == 0 == (left == 7));
            check.due("the journal", x.yard(0, 2), left < 7 ? 40000 - left : 40000);
        }
    }

    private static void fullJournalThatIsCollected(Check check) {
        Yards x = new Yards();
        Fill.journal(x, 0, 0);
        long told = x.tag(0, 7);
        int blobs = x.yard(0, 0);
        x.sync(0);
        check.due("the image of a build that another took the tag of", x.collect(0), blobs - x.yard(0, 0));
        check.holds("room came of it", x.yard(0, 2) < 40000 - 12000);
        check.due("all is synced", x.yard(0, 3), x.yard(0, 2));
        check.due("the tag tells the same", x.tag(0, 7), told);
        check.due("a build", Check.build(x, 0, 1, START + "COPY n"), 0);
    }

    /** "SYNCED are those bytes that were there at the latest sync() or collection." */
    private static void synced(Check check) {
        Yards x = new Yards();
        x.sync(0);
        check.due("nothing to sync", x.yard(0, 3), 0);
        Check.build(x, 0, 2, START + "COPY a x");
        check.due("not yet", x.yard(0, 3), 0);
        x.sync(1);
        check.due("the other yard's sync is no matter", x.yard(0, 3), 0);
        x.sync(0);
        check.due("synced", x.yard(0, 3), 66);
        x.retag(0, 7, 2);
        check.due("what came later isn't", x.yard(0, 3), 66);
        x.sync(0);
        x.sync(0);
        check.due("again", x.yard(0, 3), 81);
        check.due("the journal stays", x.yard(0, 2), 81);
        check.refuses("a crash with one byte more", Check.ARGUMENT, () -> x.crash(0, 1, 0));
        check.due("a crash with none", x.crash(0, 0, 0), 81);
    }

    private static void syncedByACollection(Check check) {
        Yards x = used();
        check.due("none goes", x.collect(0), 0);
        int size = x.yard(0, 2);
        check.due("all is synced", x.yard(0, 3), size);
        x.untag(0, 7);
        check.due("what came later isn't", x.yard(0, 3), size);
        check.due("the image of tag 7", x.collect(0), 1);
        check.due("fewer are synced", x.yard(0, 3), x.yard(0, 2));
        check.due("a crash", x.crash(0, 0, -1), x.yard(0, 2));
        check.tree(x, 0, 0, "a=x");
    }

    private static void syncedByACrash(Check check) {
        Yards x = used();
        check.due("a crash in a record", x.crash(0, 50, -1), 34);
        check.due("all is synced", x.yard(0, 3), 34);
        check.refuses("a crash with more", Check.ARGUMENT, () -> x.crash(0, 1, -1));
        check.due("a build", Check.build(x, 0, 2, START + "COPY a x"), 0);
        check.due("a hit", x.built(2), 1);
        check.due("it goes on there", x.yard(0, 2), 66);
        check.due("the tag is cut", x.crash(0, 31, -1), 51);
        check.due("no tag", x.tag(0, 2), 0);
    }

    private static int end(int whole) {
        int due = 0;
        for (int end : ENDS) {
            due = end <= whole ? end : due;
        }
        return due;
    }

    private static void asRecordsSay(Check check, Yards x, int size) {
        check.due("its journal", x.yard(0, 2), size);
        check.due("its synced bytes", x.yard(0, 3), size);
        check.due("its blobs", x.yard(0, 0), size < 12 ? 0 : size < 51 ? 1 : size < 94 ? 2 : size < 141 ? 3 : 4);
        check.due("its keys", x.yard(0, 1), size < 34 ? 0 : size < 116 ? 1 : 2);
        check.holds("tag 2", x.tag(0, 2) != 0 == (size >= 66 && size < 88));
        check.holds("tag 7", x.tag(0, 7) != 0 == size >= 81);
        check.holds("tag 0", x.tag(0, 0) != 0 == size >= ALL);
    }

    /** "up to the first one that is cut or spoilt": cut. */
    private static void cutAtEachByte(Check check) {
        Yards x = used();
        check.due("bytes", x.yard(0, 2), ALL);
        for (int n = 0; n <= ALL; n++) {
            Yards y = x.twin();
            check.due("crash(0, " + n + ", -1)", y.crash(0, n, -1), end(n));
            asRecordsSay(check, y, end(n));
        }
        check.refuses("a byte more", Check.ARGUMENT, () -> x.crash(0, ALL + 1, -1));
        check.refuses("a byte less than none", Check.ARGUMENT, () -> x.crash(0, -1, -1));
    }

    /** "byte spoilt of these (from 0 on) turned in all its bits" */
    private static void spoiltAtEachByte(Check check) {
        Yards x = used();
        for (int spoilt = 0; spoilt < ALL; spoilt++) {
            Yards y = x.twin();
            check.due("crash(0, all, " + spoilt + ")", y.crash(0, ALL, spoilt), end(spoilt));
            asRecordsSay(check, y, end(spoilt));
        }
    }

    /** "(none if there is no such)" */
    private static void spoiltOutside(Check check) {
        int[] outside = {-1, ALL, ALL + 1, Integer.MIN_VALUE, Integer.MAX_VALUE};
        for (int spoilt : outside) {
            Yards x = used();
            check.due("crash(0, all, " + spoilt + ")", x.crash(0, ALL, spoilt), ALL);
            asRecordsSay(check, x, ALL);
        }
        Yards x = used();
        check.due("a byte that isn't left", x.crash(0, 88, 88), 88);
        Yards y = used();
        check.due("the last byte that is left", y.crash(0, 88, 87), 81);
        Yards z = used();
        z.sync(0);
        check.due("no bytes behind the synced ones", z.crash(0, 0, 0), ALL);
        asRecordsSay(check, z, ALL);
    }

    private static void nothingIsLeft(Check check) {
        Yards x = used();
        check.due("nothing is left", x.crash(0, 0, 0), 0);
        for (int what = 0; what < 4; what++) {
            check.due("yard(0, " + what + ")", x.yard(0, what), 0);
        }
        check.refuses("journal(0)", Check.INDEX, () -> x.journal(0, 0));
        check.due("a build", Check.build(x, 0, 2, START + "COPY a x"), 0);
        check.due("no hit", x.built(2), 0);
        Yards empty = new Yards();
        check.due("a new yard", empty.crash(1, 0, 0), 0);
        check.refuses("has no byte", Check.ARGUMENT, () -> empty.crash(1, 1, 0));
    }

    /** "n bytes behind the synced ones are left, byte spoilt of these" */
    private static void syncedBytesAreSafe(Check check) {
        Yards x = new Yards();
        Check.build(x, 0, 2, START + "COPY a x");
        x.sync(0);
        x.retag(0, 7, 2);
        x.untag(0, 2);
        Check.build(x, 0, 0, START + "COPY a x\nCOPY a x");
        for (int n = 0; n <= ALL - 66; n++) {
            for (int spoilt : new int[] {-1, 0, n - 1, n}) {
                Yards y = x.twin();
                int whole = spoilt >= 0 && spoilt < n ? spoilt : n;
                check.due("crash(0, " + n + ", " + spoilt + ")", y.crash(0, n, spoilt), end(66 + whole));
                asRecordsSay(check, y, end(66 + whole));
            }
        }
        check.refuses("a byte more", Check.ARGUMENT, () -> x.crash(0, ALL - 65, 0));
    }

    private static void crashOfAFullJournal(Check check) {
        Yards x = new Yards();
        Fill.journal(x, 0, 0);
        String before = Check.all(x);
        check.due("all is left", x.crash(0, 40000, 40000), 40000);
        check.holds("all but the synced bytes is as before", Check.all(x).replaceFirst(" 40000 40000 journal", " 40000 0 journal")
                .equals(before));
        Yards y = new Yards();
        Fill.journal(y, 0, 0);
        check.due("the last byte is spoilt", y.crash(0, 40000, 39999), 40000 - 15);
        y.retag(0, 7, 0);
        check.due("there is room again", y.yard(0, 2), 40000);
    }

    /** What came back is used as before: hits, blobs that are there, and tags. */
    private static void backFromACrash(Check check) {
        Yards x = used();
        x.crash(0, ALL, -1);
        int size = x.yard(0, 2);
        check.due("a build of hits", Check.build(x, 0, 0, START + "COPY a x\nCOPY a x"), 0);
        check.due("hits", x.built(2), 2);
        check.due("nothing was written", x.yard(0, 2), size);
        check.tree(x, 0, 7, "a=x");
        check.refuses("tag 2 tells none", Check.ELEMENT, () -> x.untag(0, 2));
        check.due("none goes", x.collect(0), 0);
    }

    private static void crashOfOneYard(Check check) {
        Yards x = used();
        Check.build(x, 1, 3, START + "COPY b y");
        String before = Check.all(x);
        x.crash(0, 0, -1);
        String behind = Check.all(x);
        check.holds("the other yard stays", behind.substring(behind.indexOf("\nyard 1"))
                .equals(before.substring(before.indexOf("\nyard 1"))));
        check.due("built stays", x.built(1), 1);
        check.due("the build file stays", x.put(0), START.length() + 8);
    }

    private static void collectNothing(Check check) {
        Yards x = new Yards();
        check.due("an empty yard", x.collect(0), 0);
        check.due("its journal", x.yard(0, 2), 0);
        Check.build(x, 0, 0, START);
        check.due("an image without layers", x.collect(0), 0);
        check.due("its journal", x.yard(0, 2), 9 + 15);
        x.untag(0, 0);
        check.due("no tag tells it", x.collect(0), 1);
        check.due("nothing is left", x.yard(0, 2) + x.yard(0, 3) + x.yard(0, 0), 0);
    }

    /** "keeps of a yard's blobs those that tags tell, the layers of these images" */
    private static void collectByTags(Check check) {
        Yards x = new Yards();
        for (int tag = 0; tag < 8; tag++) {
            Check.build(x, 0, tag, START + "COPY a " + tag + "\nCOPY s");
        }
        check.due("blobs", x.yard(0, 0), 8 + 1 + 8);
        check.due("keys", x.yard(0, 1), 16);
        for (int tag = 7; tag >= 0; tag--) {
            x.untag(0, tag);
            check.due("the image and a layer of tag " + tag, x.collect(0), tag == 0 ? 3 : 2);
            check.due("blobs", x.yard(0, 0), tag == 0 ? 0 : 2 * tag + 1);
            check.due("the journal", x.yard(0, 2), tag * (6 + 6 + 6 + 19 + 15 + 22) + (tag == 0 ? 0 : 11 + 8 * 22));
            for (int other = 0; other < tag; other++) {
                check.tree(x, 0, other, "a=" + other + " s=");
            }
        }
    }

    /** "of the cache the keys whose layers stay" */
    private static void collectKeys(Check check) {
        Yards x = new Yards();
        Check.build(x, 0, 0, START + "COPY a 1");
        Check.build(x, 0, 1, START + "ENV v w\nCOPY a 1");
        Check.build(x, 0, 2, START + "COPY a 2");
        check.due("keys", x.yard(0, 1), 3);
        x.untag(0, 1);
        check.due("the image goes, its layer is another's, too", x.collect(0), 1);
        check.due("its key stays", x.yard(0, 1), 3);
        check.due("a hit", Check.build(x, 0, 1, START + "ENV v w\nCOPY a 1") + x.built(2), 1);
        x.untag(0, 2);
        check.due("an image and a layer", x.collect(0), 2);
        check.due("and the key", x.yard(0, 1), 2);
        check.due("no hit", Check.build(x, 0, 2, START + "COPY a 2") + x.built(2), 0);
    }

    /** "the blobs in the order in which they came": what stays is as it was, wherever it stood. */
    private static void collectBlobsOfAllLengths(Check check) {
        for (int gone = 0; gone < 16; gone++) {
            Yards x = new Yards();
            String[] texts = {"", "ab", "c".repeat(40), "defg"};
            for (int tag = 0; tag < 4; tag++) {
                Check.build(x, 0, tag, START + "COPY a " + texts[tag]);
            }
            for (int tag = 0; tag < 4; tag++) {
                if ((gone >> tag & 1) == 1) {
                    x.untag(0, tag);
                }
            }
            check.due("collect", x.collect(0), 2 * Integer.bitCount(gone));
            StringBuilder due = new StringBuilder();
            StringBuilder tags = new StringBuilder();
            StringBuilder keys = new StringBuilder();
            for (int tag = 0; tag < 4; tag++) {
                if ((gone >> tag & 1) == 0) {
                    String layer = "\2\1a" + (char) texts[tag].length() + "\0" + texts[tag];
                    String image = "M\1" + Model.eight(Model.digest(layer)) + "\0";
                    due.append(record(1, layer)).append(record(1, image));
                    tags.append(record(2, (char) tag + Model.eight(Model.digest(image))));
                    keys.append(record(4, Model.eight(Model.digest("M\0\0COPY a " + texts[tag])) + Model.eight(Model.digest(layer))));
                    check.due("a layer's length", x.blob(0, Model.digest(layer)), layer.length());
                    check.holds("its bytes", text(Check.blob(x, 0, Model.digest(layer))).equals(layer));
                    check.tree(x, 0, tag, "a=" + texts[tag]);
                }
            }
            check.holds("the journal", text(Check.journal(x, 0)).equals("" + due + tags + keys));
        }
    }

    /** Offers of two transfers, beside an image that a tag tells. */
    private static void collectTwoOffers(Check check) {
        Yards x = new Yards();
        Check.build(x, 0, 0, START + "COPY a 1\nCOPY b 2");
        Check.build(x, 0, 1, START + "COPY c 3\nCOPY d 4");
        Check.build(x, 1, 5, START + "COPY a 1");
        Check.build(x, 1, 5, START + "COPY c 3");
        Check.build(x, 1, 5, START + "COPY e 5");
        Check.build(x, 1, 6, START + "COPY f 6");
        x.send(0, 0, 0);
        x.send(0, 1, 1);
        x.send(1, 6, 1);
        x.deliver(0);
        x.deliver(1);
        x.deliver(2);
        x.untag(1, 6);
        check.due("blobs", x.yard(1, 0), 8);
        check.due("two images, and the image and the layer that are sent", x.collect(1), 4);
        check.due("the first offer's layer", x.blob(1, Model.digest("\2\1a\1\0001")), 6);
        check.due("the second offer's layer", x.blob(1, Model.digest("\2\1c\1\0003")), 6);
        check.due("the layer of the tag's image", x.blob(1, Model.digest("\2\1e\1\0005")), 6);
        check.due("one that is sent from here", x.blob(1, Model.digest("\2\1f\1\0006")), -1);
        check.due("keys", x.yard(1, 1), 3);
        check.tree(x, 1, 5, "e=5");
    }

    /** "the layers told by offers that open transfers to it have taken" */
    private static void collectOffers(Check check) {
        for (int deliveries = 0; deliveries <= 6; deliveries++) {
            Yards x = new Yards();
            Check.build(x, 0, 0, START + "COPY a 1\nCOPY b 2");
            Check.build(x, 1, 1, START + "COPY a 1\nCOPY c 3");
            x.untag(1, 1);
            x.send(0, 0, 2);
            for (int i = 0; i < deliveries && x.transfer(0, 0) != 0; i++) {
                x.deliver(0);
            }
            boolean isTaken = deliveries > 0 && deliveries < 4;
            boolean isTold = deliveries > 2;
            int blobs = x.yard(1, 0);
            int stay = isTold ? 3 : isTaken ? 1 : 0;
            check.due("after " + deliveries, x.collect(1), blobs - stay);
            check.due("blobs", x.yard(1, 0), stay);
            check.due("keys", x.yard(1, 1), stay > 0 ? 1 : 0);
            if (isTold) {
                x.untag(1, 2);
                check.due("without the tag", x.collect(1), isTaken ? 1 : 3);
            }
            check.due("the giver keeps what its tags tell", x.collect(0), 0);
        }
    }

    /** The last byte that there is, and the first that isn't. */
    private static void ends(Check check) {
        Yards x = used();
        check.due("the first byte", x.journal(0, 0), 1);
        check.due("the last byte", x.journal(0, ALL - 1), Check.journal(x, 0)[ALL - 1] & 255);
        check.refuses("behind it", Check.INDEX, () -> x.journal(0, ALL));
        check.refuses("ahead of it", Check.INDEX, () -> x.journal(0, -1));
        boolean hasHigh = false;
        for (int k = 0; k < ALL; k++) {
            check.holds("0 .. 255", x.journal(0, k) >= 0 && x.journal(0, k) < 256);
            hasHigh |= x.journal(0, k) > 127;
        }
        check.holds("bytes over 127 are among them", hasHigh);
    }
}
