/** Promises 19 to 22: transfers between the yards. */
public final class TransferTest {
    private static final String TEXT = "FROM empty\nENV v w\nCOPY a 1\nRUN mkdir d;put d/e 2";

    public static void main(String[] args) {
        Check check = new Check();
        whole(check);
        back(check);
        known(check);
        numbers(check);
        lose(check);
        arguments(check);
        giverWithoutBlob(check);
        takerWithoutRoom(check);
        takerWithoutRoomForTheImage(check);
        takerWithoutRoomForTheTag(check);
        carried(check);
        crash(check);
        check.end();
    }

    private static Yards built(int yard) {
        Yards x = new Yards();
        Check.build(x, yard, 3, TEXT);
        return x;
    }

    private static void state(Check check, Yards x, int transfer, int message, int lost, int sent, int done) {
        check.due("its message", x.transfer(transfer, 0), message);
        check.due("whether it was lost", x.transfer(transfer, 1), lost);
        check.due("how many it has sent", x.transfer(transfer, 2), sent);
        check.due("whether it is done", x.transfer(transfer, 3), done);
    }

    private static void whole(Check check) {
        Yards x = built(0);
        check.due("send", x.send(0, 3, 6), 0);
        state(check, x, 0, 1, 0, 0, 0);
        check.due("nothing came yet", x.yard(1, 2), 0);
        int[] messages = {2, 3, 2, 3, 4, 0};
        int[] sent = {0, 1, 1, 2, 2, 2};
        int[] blobs = {0, 0, 1, 1, 3, 3};
        for (int i = 0; i < messages.length; i++) {
            check.due("deliver " + i, x.deliver(0), messages[i]);
            state(check, x, 0, messages[i], 0, sent[i], i == 5 ? 1 : 0);
            check.due("blobs there", x.yard(1, 0), blobs[i]);
            check.due("the tag there", x.tag(1, 6), i < 4 ? 0 : x.tag(0, 3));
        }
        check.tree(x, 1, 6, "a=1 d/ d/e=2");
        check.due("its settings", x.image(1, 6, 1), 1);
        check.due("no keys come along", x.yard(1, 1), 0);
        check.refuses("deliver of a closed one", Check.STATE, () -> x.deliver(0));
        check.due("send again", x.send(0, 3, 6), 0);
        state(check, x, 0, 1, 0, 0, 0);
        int size = x.yard(1, 2);
        check.due("all is there", x.deliver(0), 4);
        check.due("nothing is written", x.yard(1, 2), size);
        check.due("closed", x.deliver(0), 0);
        state(check, x, 0, 0, 0, 0, 1);
    }

    private static void back(Check check) {
        Yards x = built(1);
        Check.build(x, 0, 3, "FROM empty\nENV v w\nCOPY a 1");
        check.due("send", x.send(1, 3, 3), 0);
        check.due("the first layer is there", x.deliver(0), 2);
        check.due("BLOB", x.deliver(0), 3);
        check.due("DONE", x.deliver(0), 4);
        check.due("its tag tells another one now", x.tag(0, 3), x.tag(1, 3));
        check.due("closed", x.deliver(0), 0);
        state(check, x, 0, 0, 0, 1, 1);
    }

    private static void known(Check check) {
        Yards x = new Yards();
        Check.build(x, 0, 0, "FROM empty\nENV a b");
        x.send(0, 0, 0);
        check.due("an image without layers", x.deliver(0), 4);
        Check.build(x, 0, 1, "FROM empty\nCOPY a\nCOPY a\nCOPY a");
        x.send(0, 1, 1);
        int[] messages = {2, 3, 2, 3, 4, 0};
        for (int message : messages) {
            check.due("a layer that it has twice comes once", x.deliver(1), message);
        }
        state(check, x, 1, 0, 0, 2, 1);
        x.send(0, 1, 2);
        Check.build(x, 1, 5, "FROM empty\nCOPY x 1");
        check.due("the message's image", x.deliver(1), 4);
    }

    private static void numbers(Check check) {
        Yards x = built(0);
        x.send(0, 3, 0);
        x.deliver(0);
        for (int i = 1; i < 4; i++) {
            check.due("send", x.send(0, 3, i), i);
        }
        check.refuses("a fifth", Check.STATE, () -> x.send(0, 3, 4));
        check.refuses("a tag that tells none goes before", Check.ELEMENT, () -> x.send(0, 4, 4));
        while (x.deliver(2) != 0) {
            check.holds("it is open", x.transfer(2, 0) != 0);
        }
        check.due("the least that isn't open", x.send(0, 3, 5), 2);
        while (x.deliver(3) != 0) {
            check.holds("it is open", x.transfer(3, 0) != 0);
        }
        while (x.deliver(1) != 0) {
            check.holds("it is open", x.transfer(1, 0) != 0);
        }
        check.due("the least that isn't open", x.send(0, 3, 5), 1);
        check.due("the next one", x.send(0, 3, 5), 3);
        check.due("WANT is still under way", x.transfer(0, 0), 2);
        check.due("the giver answers", x.deliver(0), 3);
        check.due("what is there already isn't kept again", x.deliver(0), 4);
        check.due("three blobs", x.yard(1, 0), 3);
        check.due("two tags, and one more", x.tag(1, 0), x.tag(0, 3));
    }

    private static void lose(Check check) {
        Yards x = built(0);
        check.refuses("lose of none", Check.STATE, () -> x.lose(0, true));
        check.refuses("lose of none", Check.STATE, () -> x.lose(0, false));
        x.send(0, 3, 0);
        check.refuses("it is under way already", Check.STATE, () -> x.lose(0, false));
        x.lose(0, true);
        state(check, x, 0, 1, 1, 0, 0);
        check.refuses("it is lost already", Check.STATE, () -> x.lose(0, true));
        check.refuses("deliver of a lost one", Check.STATE, () -> x.deliver(0));
        check.due("nothing came", x.yard(1, 2), 0);
        x.lose(0, false);
        state(check, x, 0, 1, 0, 0, 0);
        x.deliver(0);
        x.deliver(0);
        x.lose(0, true);
        x.lose(0, false);
        state(check, x, 0, 3, 0, 1, 0);
        check.due("a blob that was lost and sent again counts once", x.deliver(0), 2);
        state(check, x, 0, 2, 0, 1, 0);
        x.lose(0, true);
        check.due("an open one isn't used", x.send(0, 3, 1), 1);
        check.refuses("lose of a closed one", Check.STATE, () -> x.lose(2, true));
    }

    private static void arguments(Check check) {
        Yards x = built(0);
        int[][] wrong = {{-1, 3, 0}, {2, 3, 0}, {0, -1, 0}, {0, 8, 0}, {0, 3, -1}, {0, 3, 8}, {0, 2, 8}};
        for (int[] three : wrong) {
            check.refuses("send", Check.ARGUMENT, () -> x.send(three[0], three[1], three[2]));
        }
        check.refuses("send of a tag that tells none", Check.ELEMENT, () -> x.send(0, 2, 0));
        check.refuses("send in the other yard", Check.ELEMENT, () -> x.send(1, 3, 0));
        int[] numbers = {-1, 4, Integer.MIN_VALUE, Integer.MAX_VALUE};
        for (int number : numbers) {
            check.refuses("deliver(" + number + ")", Check.ARGUMENT, () -> x.deliver(number));
            check.refuses("lose(" + number + ")", Check.ARGUMENT, () -> x.lose(number, true));
            check.refuses("transfer(" + number + ")", Check.ARGUMENT, () -> x.transfer(number, 0));
            check.refuses("transfer's what", Check.ARGUMENT, () -> x.transfer(0, number));
        }
        check.refuses("deliver(0)", Check.STATE, () -> x.deliver(0));
        state(check, x, 0, 0, 0, 0, 0);
    }

    private static void giverWithoutBlob(Check check) {
        Yards x = built(0);
        x.send(0, 3, 0);
        x.untag(0, 3);
        x.collect(0);
        check.due("the offer has its bytes", x.deliver(0), 2);
        check.due("the giver hasn't the blob", x.deliver(0), 0);
        state(check, x, 0, 0, 0, 0, 0);
        check.refuses("it is closed", Check.STATE, () -> x.deliver(0));
        check.due("nothing was kept", x.yard(1, 0), 0);
    }

    private static void takerWithoutRoom(Check check) {
        Yards x = built(0);
        Fill.blobs(x, 1, 7, 59);
        x.send(0, 3, 0);
        check.due("WANT", x.deliver(0), 2);
        check.due("BLOB", x.deliver(0), 3);
        check.due("room for one", x.deliver(0), 2);
        check.due("BLOB", x.deliver(0), 3);
        check.due("no room for the next", x.deliver(0), 0);
        state(check, x, 0, 0, 0, 2, 0);
        check.due("what was kept stays", x.blob(1, x.layer(0, 3, 0)), 6);
        check.due("the tag tells none", x.tag(1, 0), 0);
    }

    private static void takerWithoutRoomForTheImage(Check check) {
        Yards x = built(0);
        Fill.blobs(x, 1, 7, 58);
        x.send(0, 3, 0);
        for (int i = 0; i < 4; i++) {
            x.deliver(0);
        }
        check.due("the image has no room", x.deliver(0), 0);
        check.due("the layers stay", x.yard(1, 0), 60);
        check.due("the tag tells none", x.tag(1, 0), 0);
        state(check, x, 0, 0, 0, 2, 0);
        x.send(1, 7, 6);
        while (x.deliver(0) != 0) {
            check.holds("it is open", x.transfer(0, 0) != 0);
        }
        x.send(0, 6, 2);
        check.due("an image that is there needs no room", x.deliver(0), 4);
    }

    private static void takerWithoutRoomForTheTag(Check check) {
        int layer = 6 + 6;
        int image = 6 + 11;
        for (int left = layer + image + 14; left <= layer + image + 15; left++) {
            Yards x = new Yards();
            Fill.journal(x, 0, left);
            Check.build(x, 1, 0, "FROM empty\nCOPY q 1");
            x.send(1, 0, 4);
            check.due("WANT", x.deliver(0), 2);
            check.due("BLOB", x.deliver(0), 3);
            boolean isRoom = left == layer + image + 15;
            check.due("with " + left + " bytes left", x.deliver(0), isRoom ? 4 : 0);
            check.due("the image is kept", x.blob(0, x.tag(1, 0)), 11);
            check.due("the tag", x.tag(0, 4), isRoom ? x.tag(1, 0) : 0);
            check.due("the journal", x.yard(0, 2), isRoom ? 40000 : 40000 - 14);
            check.due("done", x.transfer(0, 3), 0);
        }
    }

    /** Messages have their bytes with them. */
    private static void carried(Check check) {
        Yards x = built(0);
        Check.build(x, 0, 4, "FROM empty\nCOPY z 9");
        x.send(0, 3, 0);
        x.send(0, 4, 1);
        x.deliver(0);
        x.deliver(0);
        x.deliver(1);
        x.deliver(1);
        x.untag(0, 3);
        x.untag(0, 4);
        x.collect(0);
        Check.build(x, 0, 0, "FROM empty\nCOPY y 8");
        check.due("the blob comes", x.deliver(0), 2);
        check.due("its bytes", x.byteOf(1, Model.digest("\2\1a\1\0001"), 5), '1');
        check.due("and the other one", x.deliver(1), 4);
        check.tree(x, 1, 1, "z=9");
    }

    private static void crash(Check check) {
        for (int yard = 0; yard < 2; yard++) {
            Yards x = built(0);
            x.sync(0);
            x.send(0, 3, 0);
            x.send(0, 3, 1);
            x.send(0, 3, 2);
            x.deliver(0);
            x.deliver(0);
            x.lose(1, true);
            while (x.deliver(2) != 0) {
                check.holds("it is open", x.transfer(2, 0) != 0);
            }
            x.crash(yard, 0, -1);
            state(check, x, 0, 0, 0, 1, 0);
            state(check, x, 1, 0, 0, 0, 0);
            state(check, x, 2, 0, 0, 2, 1);
            check.refuses("deliver of one that ended", Check.STATE, () -> x.deliver(0));
            check.refuses("lose of one that ended", Check.STATE, () -> x.lose(1, false));
            check.due("send", x.send(0, 3, 0), 0);
            state(check, x, 0, 1, 0, 0, 0);
        }
        Yards x = built(0);
        x.send(0, 3, 0);
        x.deliver(0);
        x.deliver(0);
        x.deliver(0);
        x.deliver(0);
        x.deliver(0);
        check.due("DONE", x.transfer(0, 0), 4);
        x.crash(1, 0, -1);
        state(check, x, 0, 0, 0, 2, 0);
    }
}
