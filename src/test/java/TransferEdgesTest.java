/** Terms 5 and promises 19 to 22 at their edges: four transfers, their messages, and how they end. */
public final class TransferEdgesTest {
    private static final String START = "FROM empty\n";
    private static final int OFFER = 1;
    private static final int WANT = 2;
    private static final int BLOB = 3;
    private static final int DONE = 4;

    public static void main(String[] args) {
        Check check = new Check();
        fourTransfers(check);
        leastThatIsNotOpen(check);
        bothWays(check);
        aheadOfTheFirst(check);
        offerHasTheBytes(check);
        noLayers(check);
        twelveLayers(check);
        firstLayerThatItHasNot(check);
        layerThatCameMeanwhile(check);
        layersThatCameMeanwhile(check);
        giverHasNotTheBlob(check);
        giverHasTheNextNot(check);
        blobHasTheBytes(check);
        journalOfTheTaker(check);
        nothingToWrite(check);
        tagThere(check);
        twoForOneTag(check);
        lostMessages(check);
        loseAndFind(check);
        sentOnce(check);
        latestOne(check);
        crashAtEachMessage(check);
        collectAtEachMessage(check);
        check.end();
    }

    private static Yards built(int layers) {
        Yards x = new Yards();
        StringBuilder text = new StringBuilder(START);
        for (int i = 0; i < layers; i++) {
            text.append("COPY ").append((char) ('a' + i)).append('\n');
        }
        Check.build(x, 0, 0, text.toString());
        return x;
    }

    private static void is(Check check, Yards x, int transfer, int message, int lost, int sent, int done) {
        int[] due = {message, lost, sent, done};
        for (int what = 0; what < 4; what++) {
            check.due("transfer(" + transfer + ", " + what + ")", x.transfer(transfer, what), due[what]);
        }
    }

    private static void deliver(Check check, Yards x, int transfer, int... messages) {
        for (int message : messages) {
            check.due("deliver(" + transfer + ")", x.deliver(transfer), message);
            check.due("its message", x.transfer(transfer, 0), message);
        }
    }

    /** "TRANSFERS, 0 .. 3", "IllegalStateException if four are open" */
    private static void fourTransfers(Check check) {
        Yards x = built(1);
        for (int i = 0; i < 4; i++) {
            check.due("send", x.send(0, 0, i), i);
            is(check, x, i, OFFER, 0, 0, 0);
        }
        check.refuses("a fifth", Check.STATE, () -> x.send(0, 0, 4));
        deliver(check, x, 3, WANT, BLOB, DONE);
        check.refuses("DONE is a message of an open one", Check.STATE, () -> x.send(0, 0, 4));
        x.lose(3, true);
        check.refuses("a lost one is open", Check.STATE, () -> x.send(0, 0, 4));
        x.lose(3, false);
        deliver(check, x, 3, 0);
        check.due("now there is one", x.send(0, 0, 4), 3);
        check.refuses("a fifth", Check.STATE, () -> x.send(0, 0, 5));
        deliver(check, x, 0, DONE, 0);
        deliver(check, x, 1, DONE, 0);
        deliver(check, x, 2, DONE, 0);
        deliver(check, x, 3, DONE, 0);
        int[] tags = {0, 1, 2, 3, 4};
        for (int tag : tags) {
            check.due("tag " + tag + " there", x.tag(1, tag), x.tag(0, 0));
        }
    }

    /** "its number, the least that isn't open" */
    private static void leastThatIsNotOpen(Check check) {
        for (int open = 0; open < 16; open++) {
            Yards x = built(0);
            for (int i = 0; i < 4; i++) {
                x.send(0, 0, i);
            }
            int least = -1;
            for (int i = 3; i >= 0; i--) {
                if ((open >> i & 1) == 0) {
                    deliver(check, x, i, DONE, 0);
                    least = i;
                }
            }
            if (least < 0) {
                check.refuses("a fifth", Check.STATE, () -> x.send(0, 0, 7));
            } else {
                check.due("the least", x.send(0, 0, 7), least);
            }
        }
    }

    private static void bothWays(Check check) {
        Yards x = built(1);
        Check.build(x, 1, 5, START + "COPY z");
        check.due("there", x.send(0, 0, 6), 0);
        check.due("and back", x.send(1, 5, 7), 1);
        deliver(check, x, 0, WANT, BLOB, DONE, 0);
        deliver(check, x, 1, WANT, BLOB, DONE, 0);
        check.tree(x, 1, 6, "a=");
        check.tree(x, 0, 7, "z=");
        check.due("tag 7 there", x.tag(1, 7), 0);
        check.due("tag 6 here", x.tag(0, 6), 0);
        check.due("the giver's journal", x.yard(0, 0), 4);
    }

    /** "All are 0 ahead of the first one of a number." */
    private static void aheadOfTheFirst(Check check) {
        Yards x = built(1);
        for (int i = 0; i < 4; i++) {
            is(check, x, i, 0, 0, 0, 0);
        }
        x.send(0, 0, 1);
        deliver(check, x, 0, WANT, BLOB, DONE, 0);
        is(check, x, 0, 0, 0, 1, 1);
        for (int i = 1; i < 4; i++) {
            is(check, x, i, 0, 0, 0, 0);
        }
    }

    /** "Its first one is the OFFER, with the image's bytes." */
    private static void offerHasTheBytes(Check check) {
        Yards x = built(2);
        long digest = x.tag(0, 0);
        x.send(0, 0, 1);
        Check.build(x, 0, 0, START + "COPY z");
        deliver(check, x, 0, WANT);
        x.untag(0, 0);
        deliver(check, x, 0, BLOB, WANT, BLOB);
        x.collect(0);
        deliver(check, x, 0, DONE);
        check.due("the image of then", x.tag(1, 1), digest);
        check.tree(x, 1, 1, "a= b=");
        deliver(check, x, 0, 0);
    }

    private static void noLayers(Check check) {
        Yards x = built(0);
        x.send(0, 0, 1);
        deliver(check, x, 0, DONE);
        is(check, x, 0, DONE, 0, 0, 0);
        check.due("the tag tells it at DONE", x.tag(1, 1), x.tag(0, 0));
        deliver(check, x, 0, 0);
        is(check, x, 0, 0, 0, 0, 1);
    }

    private static void twelveLayers(Check check) {
        Yards x = built(12);
        x.send(0, 0, 1);
        for (int i = 0; i < 12; i++) {
            deliver(check, x, 0, WANT, BLOB);
            is(check, x, 0, BLOB, 0, i + 1, 0);
            check.due("blobs there", x.yard(1, 0), i);
        }
        check.due("no tag yet", x.tag(1, 1), 0);
        deliver(check, x, 0, DONE, 0);
        check.due("blobs there", x.yard(1, 0), 13);
        is(check, x, 0, 0, 0, 12, 1);
        check.due("its journal", x.yard(1, 2), 12 * 11 + 6 + 99 + 15);
        check.due("its entries", x.image(1, 1, 2), 12);
    }

    /** "WANT, the digest of the first layer of the image that it hasn't" */
    private static void firstLayerThatItHasNot(Check check) {
        for (int has = 0; has < 8; has++) {
            Yards x = built(3);
            StringBuilder there = new StringBuilder(START);
            int sent = 0;
            for (int i = 0; i < 3; i++) {
                boolean isThere = (has >> i & 1) == 1;
                there.append(isThere ? "COPY " + (char) ('a' + i) + "\n" : "");
                sent += isThere ? 0 : 1;
            }
            Check.build(x, 1, 0, there.toString());
            int blobs = x.yard(1, 0);
            x.send(0, 0, 1);
            for (int i = 0; i < 3; i++) {
                long layer = x.layer(0, 0, i);
                if ((has >> i & 1) == 0) {
                    deliver(check, x, 0, WANT, BLOB);
                    check.due("not yet there", x.blob(1, layer), -1);
                }
            }
            deliver(check, x, 0, DONE, 0);
            is(check, x, 0, 0, 0, sent, 1);
            check.due("blobs", x.yard(1, 0), blobs + sent + (has == 7 ? 0 : 1));
            check.due("the image", x.tag(1, 1), x.tag(0, 0));
        }
        Yards twice = new Yards();
        Check.build(twice, 0, 0, START + "COPY a\nRUN rm a\nCOPY a\nRUN rm a");
        twice.send(0, 0, 1);
        deliver(check, twice, 0, WANT, BLOB, WANT, BLOB, DONE, 0);
        is(check, twice, 0, 0, 0, 2, 1);
    }

    /** A BLOB that is there already is not kept again. */
    private static void layerThatCameMeanwhile(Check check) {
        Yards x = built(2);
        x.send(0, 0, 1);
        deliver(check, x, 0, WANT, BLOB);
        Check.build(x, 1, 0, START + "COPY a");
        int size = x.yard(1, 2);
        deliver(check, x, 0, WANT);
        check.due("nothing was written", x.yard(1, 2), size);
        deliver(check, x, 0, BLOB, DONE, 0);
        is(check, x, 0, 0, 0, 2, 1);
    }

    private static void layersThatCameMeanwhile(Check check) {
        Yards x = built(2);
        x.send(0, 0, 1);
        deliver(check, x, 0, WANT);
        Check.build(x, 1, 0, START + "COPY a\nCOPY b");
        deliver(check, x, 0, BLOB, DONE, 0);
        is(check, x, 0, 0, 0, 1, 1);
        check.due("blobs", x.yard(1, 0), 3);
    }

    /** "If it can't be (the giver hasn't the blob ...), the transfer is closed, too." */
    private static void giverHasNotTheBlob(Check check) {
        Yards x = built(1);
        x.send(0, 0, 1);
        x.untag(0, 0);
        deliver(check, x, 0, WANT);
        check.due("all go", x.collect(0), 2);
        deliver(check, x, 0, 0);
        is(check, x, 0, 0, 0, 0, 0);
        check.refuses("it isn't open", Check.STATE, () -> x.deliver(0));
        check.refuses("it isn't open", Check.STATE, () -> x.lose(0, true));
        check.due("nothing came", x.yard(1, 2), 0);
    }

    private static void giverHasTheNextNot(Check check) {
        Yards x = built(2);
        Check.build(x, 0, 1, START + "COPY a");
        x.send(0, 0, 1);
        x.untag(0, 0);
        deliver(check, x, 0, WANT, BLOB, WANT);
        check.due("the second layer and the image go", x.collect(0), 2);
        deliver(check, x, 0, 0);
        is(check, x, 0, 0, 0, 1, 0);
        check.due("what came stays", x.yard(1, 0), 1);
        check.due("the tag tells none", x.tag(1, 1), 0);
        check.due("until it is collected", x.collect(1), 1);
    }

    /** "to WANT the giver: BLOB, the bytes": those of then. */
    private static void blobHasTheBytes(Check check) {
        Yards x = built(1);
        x.send(0, 0, 1);
        deliver(check, x, 0, WANT, BLOB);
        x.untag(0, 0);
        x.collect(0);
        check.due("the giver has nothing", x.yard(0, 2), 0);
        Check.build(x, 0, 0, START + "COPY y something\nCOPY z else");
        deliver(check, x, 0, DONE, 0);
        check.tree(x, 1, 1, "a=");
    }

    /** "the taker has no room": in its journal, for each record to the byte. */
    private static void journalOfTheTaker(Check check) {
        int blob = 6 + 5;
        int[] ends = {blob, 2 * blob, 2 * blob + 6 + 19, 2 * blob + 6 + 19 + 15};
        for (int i = 0; i < ends.length; i++) {
            for (int left = ends[i] - 1; left <= ends[i]; left++) {
                int whole = left < ends[i] ? i : i + 1;
                Yards x = new Yards();
                Fill.journal(x, 1, left);
                Check.build(x, 0, 0, START + "COPY m\nCOPY n");
                int blobs = x.yard(1, 0);
                x.send(0, 0, 1);
                deliver(check, x, 0, WANT, BLOB);
                if (whole > 0) {
                    deliver(check, x, 0, WANT, BLOB);
                }
                deliver(check, x, 0, whole == 4 ? DONE : 0);
                check.due("blobs there", x.yard(1, 0) - blobs, Math.min(3, whole));
                check.due("the journal there", x.yard(1, 2), 40000 - left + (whole == 0 ? 0 : ends[whole - 1]));
                check.due("the tag there", x.tag(1, 1), whole == 4 ? x.tag(0, 0) : 0);
                is(check, x, 0, whole == 4 ? DONE : 0, 0, whole == 0 ? 1 : 2, 0);
            }
        }
    }

    /** Nothing is written if all is there and the tag tells it: that needs no room. */
    private static void nothingToWrite(Check check) {
        Yards x = new Yards();
        Fill.journal(x, 1, 0);
        x.send(1, 7, 3);
        for (int i = 0; i < 30 && x.transfer(0, 0) != 0; i++) {
            x.deliver(0);
        }
        is(check, x, 0, 0, 0, 5, 1);
        x.send(0, 3, 7);
        deliver(check, x, 0, DONE, 0);
        is(check, x, 0, 0, 0, 0, 1);
        x.send(0, 3, 6);
        deliver(check, x, 0, 0);
        is(check, x, 0, 0, 0, 0, 0);
        check.due("no room for another tag", x.tag(1, 6), 0);
        check.due("the journal is full", x.yard(1, 2), 40000);
    }

    /** "its tag tells it": whatever it told. */
    private static void tagThere(Check check) {
        Yards x = built(1);
        Check.build(x, 1, 1, START + "COPY z");
        long old = x.tag(1, 1);
        x.send(0, 0, 1);
        deliver(check, x, 0, WANT, BLOB);
        check.due("still the old one", x.tag(1, 1), old);
        deliver(check, x, 0, DONE);
        check.due("the new one", x.tag(1, 1), x.tag(0, 0));
        x.untag(1, 1);
        deliver(check, x, 0, 0);
        check.due("DONE changes nothing", x.tag(1, 1), 0);
        is(check, x, 0, 0, 0, 1, 1);
    }

    private static void twoForOneTag(Check check) {
        Yards x = built(1);
        Check.build(x, 0, 1, START + "COPY z");
        x.send(0, 0, 2);
        x.send(0, 1, 2);
        deliver(check, x, 0, WANT);
        deliver(check, x, 1, WANT, BLOB, DONE);
        check.due("the second one", x.tag(1, 2), x.tag(0, 1));
        deliver(check, x, 0, BLOB, DONE, 0);
        check.due("the first one", x.tag(1, 2), x.tag(0, 0));
        deliver(check, x, 1, 0);
        check.due("the first one", x.tag(1, 2), x.tag(0, 0));
    }

    /** "IllegalStateException if it isn't open, or its message was lost", for each message. */
    private static void lostMessages(Check check) {
        int[] messages = {OFFER, WANT, BLOB, DONE};
        for (int i = 0; i < 4; i++) {
            Yards x = built(1);
            x.send(0, 0, 1);
            for (int k = 0; k < i; k++) {
                x.deliver(0);
            }
            int sent = i < 2 ? 0 : 1;
            is(check, x, 0, messages[i], 0, sent, 0);
            check.refuses("it is under way", Check.STATE, () -> x.lose(0, false));
            x.lose(0, true);
            is(check, x, 0, messages[i], 1, sent, 0);
            check.refuses("it is lost", Check.STATE, () -> x.lose(0, true));
            check.refuses("deliver of a lost one", Check.STATE, () -> x.deliver(0));
            is(check, x, 0, messages[i], 1, sent, 0);
            x.lose(0, false);
            is(check, x, 0, messages[i], 0, sent, 0);
            check.refuses("it is under way", Check.STATE, () -> x.lose(0, false));
            check.due("it is delivered", x.deliver(0), i == 3 ? 0 : messages[i + 1]);
        }
    }

    /** "or the one that was lost is under way again": again and again. */
    private static void loseAndFind(Check check) {
        Yards x = built(2);
        x.send(0, 0, 1);
        int[] messages = {WANT, BLOB, WANT, BLOB, DONE, 0};
        for (int message : messages) {
            x.lose(0, true);
            x.lose(0, false);
            x.lose(0, true);
            x.lose(0, false);
            deliver(check, x, 0, message);
        }
        is(check, x, 0, 0, 0, 2, 1);
        check.refuses("a closed one", Check.STATE, () -> x.lose(0, true));
        check.refuses("a closed one", Check.STATE, () -> x.lose(0, false));
        x.send(0, 0, 2);
        x.lose(0, true);
        Yards y = built(2);
        y.send(0, 0, 1);
        y.lose(0, true);
        y.crash(1, 0, -1);
        is(check, y, 0, 0, 0, 0, 0);
        y.send(0, 0, 1);
        is(check, y, 0, OFFER, 0, 0, 0);
    }

    /** "how many BLOBS its latest one has sent (each once; the OFFER isn't one ...)" */
    private static void sentOnce(Check check) {
        Yards x = built(3);
        x.send(0, 0, 1);
        int[] sent = {0, 1, 1, 2, 2, 3, 3, 3};
        for (int i = 0; i < 8; i++) {
            int message = x.deliver(0);
            check.due("sent after " + i, x.transfer(0, 2), sent[i]);
            if (message != 0) {
                x.lose(0, true);
                check.due("sent after a loss", x.transfer(0, 2), sent[i]);
                x.lose(0, false);
                check.due("sent after it is found", x.transfer(0, 2), sent[i]);
            }
        }
        is(check, x, 0, 0, 0, 3, 1);
    }

    /** "its latest one": a new one of the same number begins anew. */
    private static void latestOne(Check check) {
        Yards x = built(1);
        x.send(0, 0, 1);
        deliver(check, x, 0, WANT, BLOB, DONE, 0);
        is(check, x, 0, 0, 0, 1, 1);
        x.send(0, 0, 1);
        is(check, x, 0, OFFER, 0, 0, 0);
        deliver(check, x, 0, DONE, 0);
        is(check, x, 0, 0, 0, 0, 1);
        Check.build(x, 0, 2, START + "COPY z");
        x.send(0, 2, 2);
        x.untag(0, 2);
        x.collect(0);
        deliver(check, x, 0, WANT, 0);
        is(check, x, 0, 0, 0, 0, 0);
    }

    /** "Transfers from or to it end", "for one ... that a crash ended, 0" */
    private static void crashAtEachMessage(Check check) {
        for (int yard = 0; yard < 2; yard++) {
            for (int i = 0; i <= 4; i++) {
                Yards x = built(1);
                x.sync(0);
                Check.build(x, 1, 3, START);
                x.send(0, 0, 1);
                x.send(0, 0, 2);
                x.send(1, 3, 3);
                x.lose(2, true);
                for (int k = 0; k < i; k++) {
                    x.deliver(0);
                }
                int first = i == 4 ? 1 : 0;
                x.crash(yard, 0, -1);
                is(check, x, 0, 0, 0, i < 2 ? 0 : 1, first);
                is(check, x, 1, 0, 0, 0, 0);
                is(check, x, 2, 0, 0, 0, 0);
                check.refuses("deliver", Check.STATE, () -> x.deliver(0));
                check.refuses("lose", Check.STATE, () -> x.lose(2, false));
                check.due("send", x.send(0, 0, 1), 0);
                is(check, x, 0, OFFER, 0, 0, 0);
            }
        }
        Yards x = built(1);
        x.sync(0);
        x.send(0, 0, 1);
        check.refuses("a crash that throws", Check.ARGUMENT, () -> x.crash(0, 1, -1));
        is(check, x, 0, OFFER, 0, 0, 0);
    }

    /** What a taken offer tells stays in a collection, so that no layer is wanted twice. */
    private static void collectAtEachMessage(Check check) {
        Yards x = built(3);
        x.send(0, 0, 1);
        int[] messages = {WANT, BLOB, WANT, BLOB, WANT, BLOB, DONE};
        int[] blobs = {0, 0, 1, 1, 2, 2, 4};
        for (int i = 0; i < messages.length; i++) {
            deliver(check, x, 0, messages[i]);
            check.due("nothing goes there", x.collect(1), 0);
            check.due("nothing goes here", x.collect(0), 0);
            check.due("blobs", x.yard(1, 0), blobs[i]);
        }
        x.untag(1, 1);
        check.due("the image isn't held", x.collect(1), 1);
        deliver(check, x, 0, 0);
        check.due("nor the layers of a closed one", x.collect(1), 3);
        is(check, x, 0, 0, 0, 3, 1);
    }
}
