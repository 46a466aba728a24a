import java.util.Arrays;

/** Promises 14 to 18: yards, journals, sync, crashes and collections. */
public final class JournalTest {
    public static void main(String[] args) {
        Check check = new Check();
        records(check);
        arguments(check);
        crash(check);
        crashAtEachByte(check);
        collect(check);
        collectOrder(check);
        collectOffers(check);
        crashBehindCollection(check);
        check.end();
    }

    private static Yards built() {
        Yards x = new Yards();
        Check.build(x, 0, 2, "FROM empty\nCOPY a x");
        return x;
    }

    private static String record(int kind, String bytes) {
        String head = (char) kind + "" + (char) bytes.length() + "\0" + (char) bytes.length() + "\0" + bytes;
        return head + (char) (head.chars().sum() % 256);
    }

    private static void same(Check check, String what, Yards x, int yard, String due) {
        byte[] bytes = due.getBytes(java.nio.charset.StandardCharsets.ISO_8859_1);
        check.holds(what, Arrays.equals(Check.journal(x, yard), bytes));
    }

    private static void records(Check check) {
        Yards x = built();
        String layer = "\2\1a\1\0x";
        String image = "M\1" + Model.eight(Model.digest(layer)) + "\0";
        String due = record(1, layer)
                + record(4, Model.eight(Model.digest("M\0\0COPY a x")) + Model.eight(Model.digest(layer)))
                + record(1, image) + record(2, "\2" + Model.eight(Model.digest(image)));
        same(check, "the records of a build", x, 0, due);
        check.due("blobs", x.yard(0, 0), 2);
        check.due("keys", x.yard(0, 1), 1);
        check.due("journal", x.yard(0, 2), due.length());
        check.due("synced", x.yard(0, 3), 0);
        x.untag(0, 2);
        due += record(3, "\2");
        same(check, "the record of an untag", x, 0, due);
        Check.build(x, 0, 6, "FROM empty\nCOPY a x");
        due += record(2, "\6" + Model.eight(Model.digest(image)));
        same(check, "a build of hits writes the tag alone", x, 0, due);
        Check.build(x, 0, 6, "FROM empty\nCOPY a x");
        same(check, "and nothing if it tells that already", x, 0, due);
        x.sync(0);
        check.due("all is synced", x.yard(0, 3), due.length());
        same(check, "the journal stays", x, 0, due);
        x.untag(0, 6);
        check.due("synced are those that were there", x.yard(0, 3), due.length());
        check.due("the other yard is empty", x.yard(1, 2), 0);
        x.sync(1);
        check.due("nothing is synced there", x.yard(1, 3), 0);
    }

    private static void arguments(Check check) {
        Yards x = built();
        int size = x.yard(0, 2);
        int[] wrong = {-1, 2, Integer.MIN_VALUE, Integer.MAX_VALUE};
        for (int yard : wrong) {
            check.refuses("yard of a wrong yard", Check.ARGUMENT, () -> x.yard(yard, 0));
            check.refuses("journal of a wrong yard", Check.ARGUMENT, () -> x.journal(yard, -1));
            check.refuses("sync of a wrong yard", Check.ARGUMENT, () -> x.sync(yard));
            check.refuses("crash of a wrong yard", Check.ARGUMENT, () -> x.crash(yard, 0, 0));
            check.refuses("collect of a wrong yard", Check.ARGUMENT, () -> x.collect(yard));
        }
        check.refuses("yard, what = -1", Check.ARGUMENT, () -> x.yard(0, -1));
        check.refuses("yard, what = 4", Check.ARGUMENT, () -> x.yard(0, 4));
        check.refuses("journal behind its end", Check.INDEX, () -> x.journal(0, size));
        check.refuses("journal ahead of its beginning", Check.INDEX, () -> x.journal(0, -1));
        check.refuses("an empty journal", Check.INDEX, () -> x.journal(1, 0));
        check.refuses("crash with n = -1", Check.ARGUMENT, () -> x.crash(0, -1, 0));
        check.refuses("crash with too great an n", Check.ARGUMENT, () -> x.crash(0, size + 1, 0));
        check.refuses("crash with the greatest n", Check.ARGUMENT, () -> x.crash(0, Integer.MAX_VALUE, 0));
        check.due("nothing is changed", x.yard(0, 2), size);
        x.sync(0);
        check.refuses("crash with n above none", Check.ARGUMENT, () -> x.crash(0, 1, 0));
    }

    private static void crash(Check check) {
        Yards x = built();
        int size = x.yard(0, 2);
        long digest = x.tag(0, 2);
        check.due("all is left", x.crash(0, size, -1), size);
        check.due("the tag tells", x.tag(0, 2), digest);
        check.tree(x, 0, 2, "a=x");
        check.due("all is synced", x.yard(0, 3), size);
        Check.build(x, 0, 0, "FROM empty\nCOPY a x");
        check.due("the cache came back", x.built(2), 1);
        check.due("only the synced bytes are left", x.crash(0, 0, 0), size);
        check.due("the new tag went", x.tag(0, 0), 0);
        x.untag(0, 2);
        check.due("a spoilt byte", x.crash(0, 7, 3), size);
        check.due("the tag tells again", x.tag(0, 2), digest);
        x.untag(0, 2);
        check.due("no such byte to spoil", x.crash(0, 7, 7), size + 7);
        check.due("the tag tells none", x.tag(0, 2), 0);
        check.refuses("and has no image", Check.ELEMENT, () -> x.image(0, 2, 0));
        check.refuses("nor has another one", Check.ELEMENT, () -> x.image(0, 1, 0));
    }

    private static void crashAtEachByte(Check check) {
        int size = built().yard(0, 2);
        int[] ends = {0, 12, 34, 51, 66};
        check.due("the records' ends", size, ends[4]);
        for (int n = 0; n <= size; n++) {
            for (int spoilt = -1; spoilt <= n; spoilt++) {
                Yards x = built();
                int whole = spoilt >= 0 && spoilt < n ? spoilt : n;
                int due = 0;
                for (int end : ends) {
                    due = end <= whole ? end : due;
                }
                check.due("crash(0, " + n + ", " + spoilt + ")", x.crash(0, n, spoilt), due);
                check.due("its journal", x.yard(0, 2), due);
                check.due("its synced bytes", x.yard(0, 3), due);
                check.due("its blobs", x.yard(0, 0), due < 12 ? 0 : due < 51 ? 1 : 2);
                check.due("its keys", x.yard(0, 1), due < 34 ? 0 : 1);
                check.holds("its tag", x.tag(0, 2) != 0 == (due == 66));
            }
        }
    }

    private static void collect(Check check) {
        Yards x = built();
        check.due("nothing to collect", x.collect(0), 0);
        check.due("all is synced", x.yard(0, 3), x.yard(0, 2));
        Check.build(x, 0, 3, "FROM 2\nCOPY b y\nRUN put c");
        Check.build(x, 0, 4, "FROM 2\nCOPY b z");
        check.due("blobs", x.yard(0, 0), 7);
        x.untag(0, 3);
        check.due("an image and its two layers went", x.collect(0), 3);
        check.due("blobs", x.yard(0, 0), 4);
        check.due("keys", x.yard(0, 1), 2);
        check.tree(x, 0, 4, "a=x b=z");
        check.tree(x, 0, 2, "a=x");
        check.due("nothing more", x.collect(0), 0);
        Check.build(x, 0, 5, "FROM 2\nCOPY b z\nCOPY b y");
        check.due("a key that stays is a hit", x.built(2), 1);
        x.untag(0, 2);
        check.due("a layer that another image has stays", x.collect(0), 1);
        x.untag(0, 4);
        x.untag(0, 5);
        check.due("all go", x.collect(0), x.yard(0, 0) + 5);
        for (int what = 0; what < 4; what++) {
            check.due("the yard is empty", x.yard(0, what), 0);
        }
        check.due("an empty yard", x.collect(1), 0);
    }

    private static void collectOrder(Check check) {
        Yards x = new Yards();
        Check.build(x, 0, 6, "FROM empty\nCOPY a 1");
        Check.build(x, 0, 7, "FROM empty\nCOPY gone");
        Check.build(x, 0, 1, "FROM empty\nCOPY b 2");
        Check.build(x, 0, 3, "FROM empty\nRUN put a 1");
        x.untag(0, 7);
        check.due("collect", x.collect(0), 2);
        String one = "\2\1a\1\0001";
        String two = "\2\1b\1\0002";
        String first = "M\1" + Model.eight(Model.digest(one)) + "\0";
        String second = "M\1" + Model.eight(Model.digest(two)) + "\0";
        String due = record(1, one) + record(1, first) + record(1, two) + record(1, second)
                + record(2, "\1" + Model.eight(Model.digest(second))) + record(2, "\3" + Model.eight(Model.digest(first)))
                + record(2, "\6" + Model.eight(Model.digest(first)))
                + record(4, Model.eight(Model.digest("M\0\0COPY a 1")) + Model.eight(Model.digest(one)))
                + record(4, Model.eight(Model.digest("M\0\0COPY b 2")) + Model.eight(Model.digest(two)))
                + record(4, Model.eight(Model.digest("M\0\0RUN put a 1")) + Model.eight(Model.digest(one)));
        same(check, "blobs, tags and keys in their orders", x, 0, due);
        check.due("synced", x.yard(0, 3), due.length());
    }

    private static void collectOffers(Check check) {
        Yards x = new Yards();
        Check.build(x, 0, 0, "FROM empty\nCOPY a 1\nCOPY b 2");
        Check.build(x, 1, 0, "FROM empty\nCOPY a 1");
        long layer = x.layer(1, 0, 0);
        x.send(0, 0, 5);
        x.untag(1, 0);
        x.lose(0, true);
        Yards y = new Yards();
        Check.build(y, 1, 0, "FROM empty\nCOPY a 1");
        y.untag(1, 0);
        check.due("an offer that isn't taken holds nothing", x.collect(1), y.collect(1));
        Check.build(x, 1, 0, "FROM empty\nCOPY a 1");
        x.untag(1, 0);
        x.lose(0, false);
        check.due("WANT of the second", x.deliver(0), 2);
        check.due("the image goes, its layer stays", x.collect(1), 1);
        check.due("the layer", x.blob(1, layer), 6);
        check.due("its key stays, too", x.yard(1, 1), 1);
        check.due("the giver isn't held", x.collect(0), 0);
        check.due("BLOB", x.deliver(0), 3);
        x.lose(0, true);
        check.due("a lost message's transfer is open", x.collect(1), 0);
        x.lose(0, false);
        check.due("DONE", x.deliver(0), 4);
        x.untag(1, 5);
        check.due("the image isn't told by the offer", x.collect(1), 1);
        check.due("its layers are", x.yard(1, 0), 2);
        check.due("closed", x.deliver(0), 0);
        check.due("a closed one holds nothing", x.collect(1), 2);
        Check.build(x, 1, 0, "FROM empty\nCOPY a 1");
        x.untag(1, 0);
        check.due("the same number anew", x.send(0, 0, 5), 0);
        check.due("its offer isn't taken yet", x.collect(1), 2);
    }

    private static void crashBehindCollection(Check check) {
        Yards x = built();
        Check.build(x, 0, 3, "FROM 2\nENV v w\nCOPY b $v");
        x.untag(0, 2);
        x.collect(0);
        int size = x.yard(0, 2);
        Check.build(x, 0, 4, "FROM 3\nCOPY c");
        check.due("what was collected is left", x.crash(0, 5, -1), size);
        check.tree(x, 0, 3, "a=x b=w");
        check.due("settings came back", x.image(0, 3, 1), 1);
        check.due("keys came back", x.yard(0, 1), 2);
        check.due("tag 2 tells none", x.tag(0, 2), 0);
        check.due("tag 4 tells none", x.tag(0, 4), 0);
    }
}
