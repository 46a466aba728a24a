import java.util.function.Consumer;

/**
 * "A call that throws changes nothing": each call of the face, with each reason that it has to throw, at the
 * first input that isn't allowed. Behind it all answers, and what further calls do, are as without it.
 */
public final class RefusedTest {
    private static final int LEAST = Integer.MIN_VALUE;
    private static final int GREATEST = Integer.MAX_VALUE;
    private static final int[] NO_YARDS = {-1, 2, LEAST, GREATEST};
    private static final int[] NO_TAGS = {-1, 8, LEAST, GREATEST};
    private static final int[] NO_TRANSFERS = {-1, 4, LEAST, GREATEST};

    private final Check check;
    private final String title;
    private final Yards state;
    private final String before;
    private final String behind;
    private Yards refused;

    private RefusedTest(Check check, String title, Yards state) {
        this.check = check;
        this.title = title;
        this.state = state;
        before = Check.all(state.twin());
        behind = goneOn(state.twin());
    }

    public static void main(String[] args) {
        Check check = new Check();
        allCalls(new RefusedTest(check, "a new object", new Yards()), 0, 3, 0);
        allCalls(new RefusedTest(check, "a used object", used()), 1, 3, 0);
        RefusedTest used = new RefusedTest(check, "a used object", used());
        used.usedCalls();
        RefusedTest four = new RefusedTest(check, "four transfers", fourTransfers());
        four.transferCalls();
        four.noYards(1);
        four.noTags(1);
        new RefusedTest(check, "closed transfers", closedTransfers()).closedCalls();
        new RefusedTest(check, "a full file", fullFile()).fullFileCalls();
        RefusedTest full = new RefusedTest(check, "a full journal", fullJournal(0));
        full.fullJournalCalls();
        full.noYards(0);
        full.noTags(0);
        new RefusedTest(check, "a journal with six bytes left", fullJournal(6)).fullJournalCalls();
        new RefusedTest(check, "a journal with 14 bytes left", fullJournal(14)).retagCalls();
        check.end();
    }

    /** Images in both yards (tags 1 and 2 here, 4 there), bytes behind the synced ones, and a transfer of each kind. */
    private static Yards used() {
        Yards x = new Yards();
        Check.build(x, 0, 1, "FROM empty\nENV v w\nCOPY a $v\nRUN mkdir d;put d/e xyz");
        x.sync(0);
        Check.build(x, 1, 4, "FROM empty\nCOPY b 1");
        x.sync(1);
        Check.build(x, 0, 2, "FROM 1\nRUN rm d/e");
        x.send(0, 1, 5);
        x.send(1, 4, 5);
        x.deliver(1);
        x.deliver(1);
        x.send(0, 2, 6);
        x.deliver(2);
        x.lose(0, true);
        Check.write(x, "FROM 4\nCOPY c 2");
        return x;
    }

    private static Yards fourTransfers() {
        Yards x = used();
        x.send(1, 4, 7);
        return x;
    }

    /** Transfer 0 ended with DONE, 1 because its giver hadn't the blob, 2 by a crash; 3 never began. */
    private static Yards closedTransfers() {
        Yards x = new Yards();
        Check.build(x, 0, 1, "FROM empty\nCOPY a 1");
        Check.build(x, 0, 2, "FROM empty\nCOPY b 2");
        x.send(0, 1, 5);
        x.send(0, 2, 6);
        x.send(0, 1, 7);
        for (int i = 0; i < 4; i++) {
            x.deliver(0);
        }
        x.untag(0, 2);
        x.collect(0);
        x.deliver(1);
        x.deliver(1);
        x.crash(0, 0, -1);
        return x;
    }

    private static Yards fullFile() {
        Yards x = new Yards();
        Check.write(x, "FROM empty\n" + "\n".repeat(581) + "COPY a b");
        return x;
    }

    private static Yards fullJournal(int left) {
        Yards x = new Yards();
        Fill.journal(x, 0, left);
        return x;
    }

    /** What further calls come to: it shows the build file, the cache and what messages have with them, too. */
    private static String goneOn(Yards x) {
        StringBuilder out = new StringBuilder();
        out.append(x.build(0, 7)).append(' ').append(x.build(1, 7)).append(' ').append(x.built(2));
        for (int i = 0; i < 8; i++) {
            if (x.transfer(i / 2, 0) != 0 && x.transfer(i / 2, 1) == 0) {
                out.append(' ').append(x.deliver(i / 2));
            }
        }
        out.append(' ').append(x.crash(0, (x.yard(0, 2) - x.yard(0, 3)) / 2, -1));
        out.append(' ').append(x.collect(1));
        return out.append(Check.all(x)).toString();
    }

    private void start() {
        refused = state.twin();
    }

    private void refuse(String call, Class<? extends RuntimeException> due, Consumer<Yards> of) {
        check.refuses(title + ": " + call, due, () -> of.accept(refused));
    }

    private void unchanged(String calls) {
        check.holds(title + ": " + calls + " that throw change nothing", Check.all(refused).equals(before));
        check.holds(title + ": " + calls + " that throw leave nothing behind", goneOn(refused).equals(behind));
    }

    /** What every object refuses; of the first yard, a tag that tells an image (or none) and one that tells none. */
    private static void allCalls(RefusedTest test, int tag, int none, int yard) {
        test.noYards(tag);
        test.noTags(tag);
        test.noTransfers();
        test.noWhats();
        test.noSigns();
        test.noImages(none);
        test.noBytes(yard);
    }

    private void noYards(int tag) {
        start();
        for (int yard : NO_YARDS) {
            refuse("build", Check.ARGUMENT, x -> x.build(yard, tag));
            refuse("tag", Check.ARGUMENT, x -> x.tag(yard, tag));
            refuse("retag", Check.ARGUMENT, x -> x.retag(yard, 0, tag));
            refuse("untag", Check.ARGUMENT, x -> x.untag(yard, tag));
            refuse("image", Check.ARGUMENT, x -> x.image(yard, tag, 0));
            refuse("layer", Check.ARGUMENT, x -> x.layer(yard, tag, 99));
            refuse("entry", Check.ARGUMENT, x -> x.entry(yard, tag, 99, -1, 0));
            refuse("send", Check.ARGUMENT, x -> x.send(yard, tag, 0));
        }
        unchanged("calls of a yard and a tag");
        start();
        for (int yard : NO_YARDS) {
            refuse("blob", Check.ARGUMENT, x -> x.blob(yard, 0));
            refuse("byteOf", Check.ARGUMENT, x -> x.byteOf(yard, 0, -1));
            refuse("yard", Check.ARGUMENT, x -> x.yard(yard, 0));
            refuse("journal", Check.ARGUMENT, x -> x.journal(yard, -1));
            refuse("sync", Check.ARGUMENT, x -> x.sync(yard));
            refuse("crash", Check.ARGUMENT, x -> x.crash(yard, 0, -1));
            refuse("collect", Check.ARGUMENT, x -> x.collect(yard));
        }
        unchanged("calls of a yard");
    }

    private void noTags(int told) {
        start();
        for (int tag : NO_TAGS) {
            for (int yard = 0; yard < 2; yard++) {
                int here = yard;
                refuse("build", Check.ARGUMENT, x -> x.build(here, tag));
                refuse("tag", Check.ARGUMENT, x -> x.tag(here, tag));
                refuse("retag", Check.ARGUMENT, x -> x.retag(here, tag, told));
                refuse("retag from", Check.ARGUMENT, x -> x.retag(here, told, tag));
                refuse("untag", Check.ARGUMENT, x -> x.untag(here, tag));
                refuse("image", Check.ARGUMENT, x -> x.image(here, tag, 0));
                refuse("layer", Check.ARGUMENT, x -> x.layer(here, tag, 99));
                refuse("entry", Check.ARGUMENT, x -> x.entry(here, tag, 99, -1, 0));
                refuse("send", Check.ARGUMENT, x -> x.send(here, tag, 0));
                refuse("send there", Check.ARGUMENT, x -> x.send(here, told, tag));
            }
        }
        unchanged("calls of a tag");
    }

    private void noTransfers() {
        start();
        for (int transfer : NO_TRANSFERS) {
            refuse("deliver", Check.ARGUMENT, x -> x.deliver(transfer));
            refuse("lose true", Check.ARGUMENT, x -> x.lose(transfer, true));
            refuse("lose false", Check.ARGUMENT, x -> x.lose(transfer, false));
            for (int what = -1; what < 5; what++) {
                int that = what;
                refuse("transfer", Check.ARGUMENT, x -> x.transfer(transfer, that));
            }
        }
        unchanged("calls of a transfer");
    }

    private void noWhats() {
        start();
        int[] threes = {-1, 3, LEAST, GREATEST};
        for (int what : threes) {
            refuse("built", Check.ARGUMENT, x -> x.built(what));
        }
        int[] fours = {-1, 4, LEAST, GREATEST};
        for (int what : fours) {
            for (int i = 0; i < 4; i++) {
                int at = i;
                refuse("yard", Check.ARGUMENT, x -> x.yard(at / 2, what));
                refuse("transfer", Check.ARGUMENT, x -> x.transfer(at, what));
            }
        }
        unchanged("calls of another what");
    }

    private void noSigns() {
        start();
        int[] wrong = {1, 9, 11, 31, 127, 128, 255};
        for (int sign : wrong) {
            for (int shift = 0; shift < 32; shift += 8) {
                int alone = sign << shift;
                int four = 0x61616161 & ~(255 << shift) | alone;
                refuse("put of " + sign, Check.ARGUMENT, x -> x.put(four));
                refuse("put of " + sign + " alone", Check.ARGUMENT, x -> x.put(alone));
            }
        }
        unchanged("puts");
        start();
        int size = refused.put(0);
        int[] ends = {-1, size + 1, LEAST, GREATEST};
        for (int n : ends) {
            refuse("end(" + n + ")", Check.ARGUMENT, x -> x.end(n));
        }
        unchanged("ends");
    }

    private void noImages(int none) {
        start();
        refuse("retag from none", Check.ELEMENT, x -> x.retag(0, 0, none));
        refuse("retag from none to itself", Check.ELEMENT, x -> x.retag(0, none, none));
        refuse("untag of none", Check.ELEMENT, x -> x.untag(0, none));
        refuse("send of none", Check.ELEMENT, x -> x.send(0, none, 0));
        for (int what = -1; what < 4; what++) {
            int that = what;
            refuse("image of none", Check.ELEMENT, x -> x.image(0, none, that));
        }
        for (int i = -1; i < 2; i++) {
            int at = i;
            refuse("layer of none", Check.ELEMENT, x -> x.layer(0, none, at));
            for (int what = -1; what < 5; what++) {
                int that = what;
                refuse("entry of none", Check.ELEMENT, x -> x.entry(0, none, at, at, that));
            }
        }
        unchanged("calls of a tag that tells none");
    }

    private void noBytes(int yard) {
        start();
        int size = refused.yard(yard, 2);
        int more = size - refused.yard(yard, 3);
        int[] places = {-1, size, LEAST, GREATEST};
        for (int k : places) {
            refuse("journal(" + k + ")", Check.INDEX, x -> x.journal(yard, k));
            refuse("byteOf of no blob", Check.ELEMENT, x -> x.byteOf(yard, 12345, k));
        }
        refuse("byteOf of no blob", Check.ELEMENT, x -> x.byteOf(yard, 0, 0));
        int[] counts = {-1, more + 1, LEAST, GREATEST};
        for (int n : counts) {
            for (int spoilt = -1; spoilt < 2; spoilt++) {
                int at = spoilt;
                refuse("crash(" + n + ")", Check.ARGUMENT, x -> x.crash(yard, n, at));
            }
        }
        unchanged("calls of bytes");
    }

    /** What an object with images refuses of these: tag 1 has two layers and three entries. */
    private void usedCalls() {
        start();
        int[] layers = {-1, 2, LEAST, GREATEST};
        for (int i : layers) {
            refuse("layer(" + i + ")", Check.INDEX, x -> x.layer(0, 1, i));
        }
        int[] entries = {-1, 3, LEAST, GREATEST};
        for (int what = -1; what < 5; what++) {
            int that = what;
            for (int i : entries) {
                refuse("entry(" + i + ")", Check.INDEX, x -> x.entry(0, 1, i, 0, that));
            }
            refuse("entry with k = -1", Check.INDEX, x -> x.entry(0, 1, 0, -1, that));
            refuse("entry with the least k", Check.INDEX, x -> x.entry(0, 1, 2, LEAST, that));
        }
        int[] noWhats = {-1, 4, LEAST, GREATEST};
        for (int what : noWhats) {
            refuse("entry of what " + what, Check.ARGUMENT, x -> x.entry(0, 1, 0, 0, what));
            refuse("entry of what " + what, Check.ARGUMENT, x -> x.entry(0, 1, 2, GREATEST, what));
            refuse("image of what " + what, Check.ARGUMENT, x -> x.image(0, 1, what == 4 ? 3 : what));
        }
        unchanged("calls of an image");
        start();
        long digest = refused.tag(0, 1);
        int length = refused.blob(0, digest);
        int[] places = {-1, length, LEAST, GREATEST};
        for (int k : places) {
            refuse("byteOf(" + k + ")", Check.INDEX, x -> x.byteOf(0, digest, k));
            refuse("byteOf in the other yard", Check.ELEMENT, x -> x.byteOf(1, digest, k));
        }
        unchanged("calls of a blob");
    }

    /** Transfer 0 is lost, 1 and 2 and 3 are under way. */
    private void transferCalls() {
        start();
        refuse("a fifth transfer", Check.STATE, x -> x.send(0, 1, 0));
        refuse("a fifth transfer from there", Check.STATE, x -> x.send(1, 4, 0));
        refuse("none goes before", Check.ELEMENT, x -> x.send(0, 0, 0));
        refuse("deliver of a lost one", Check.STATE, x -> x.deliver(0));
        refuse("lose of a lost one", Check.STATE, x -> x.lose(0, true));
        for (int i = 1; i < 4; i++) {
            int transfer = i;
            refuse("what is under way isn't lost", Check.STATE, x -> x.lose(transfer, false));
        }
        unchanged("calls of transfers");
        Yards none = new Yards();
        for (int i = 0; i < 4; i++) {
            int transfer = i;
            check.refuses("deliver of none", Check.STATE, () -> none.deliver(transfer));
            check.refuses("lose of none", Check.STATE, () -> none.lose(transfer, false));
            check.refuses("lose of none", Check.STATE, () -> none.lose(transfer, true));
        }
        check.holds("a new object is as it was", Check.all(none).equals(Check.all(new Yards())));
    }

    private void closedCalls() {
        check.due("the first one ended with DONE", state.transfer(0, 3), 1);
        for (int i = 0; i < 4; i++) {
            int transfer = i;
            check.due("it isn't open", state.transfer(i, 0), 0);
            start();
            refuse("deliver", Check.STATE, x -> x.deliver(transfer));
            unchanged("deliveries of a closed transfer");
            start();
            refuse("lose true", Check.STATE, x -> x.lose(transfer, true));
            unchanged("losses of a closed transfer");
            start();
            refuse("lose false", Check.STATE, x -> x.lose(transfer, false));
            unchanged("finds of a closed transfer");
        }
    }

    private void fullFileCalls() {
        start();
        refuse("a 601st sign", Check.UNSUPPORTED, x -> x.put('a'));
        refuse("a 601st sign, the last of four", Check.UNSUPPORTED, x -> x.put('a' << 24));
        refuse("a 604th sign", Check.UNSUPPORTED, x -> x.put(0x61616161));
        refuse("a line end", Check.UNSUPPORTED, x -> x.put(10 << 8));
        refuse("a wrong sign goes before", Check.ARGUMENT, x -> x.put(127 << 8 | 'a'));
        refuse("end(601)", Check.ARGUMENT, x -> x.end(601));
        unchanged("puts");
        for (int have = 597; have < 600; have++) {
            Yards some = new Yards();
            Check.write(some, "FROM empty\n" + "\n".repeat(have - 11));
            check.refuses("four more than " + have, Check.UNSUPPORTED, () -> some.put(0x61616161));
            check.due("none of them is there", some.put(0), have);
            check.due("nor stands behind", some.build(0, 0), 0);
        }
    }

    private void fullJournalCalls() {
        start();
        refuse("untag", Check.UNSUPPORTED, x -> x.untag(0, 0));
        refuse("untag", Check.UNSUPPORTED, x -> x.untag(0, 7));
        refuse("none goes before", Check.ELEMENT, x -> x.untag(0, 1));
        unchanged("untags");
        retagCalls();
    }

    private void retagCalls() {
        start();
        refuse("retag", Check.UNSUPPORTED, x -> x.retag(0, 0, 7));
        refuse("retag", Check.UNSUPPORTED, x -> x.retag(0, 1, 0));
        refuse("none goes before", Check.ELEMENT, x -> x.retag(0, 0, 1));
        refuse("none goes before", Check.ELEMENT, x -> x.retag(0, 2, 1));
        unchanged("retags");
    }
}
