/** Terms 3 at its edges: hits and keys, the faults, which of them goes before which, and what stays of a build. */
public final class FaultEdgesTest {
    private static final String START = "FROM empty\n";
    private static final int LAYER = 6 + 5;
    private static final int KEY = 6 + 16;
    private static final int IMAGE = 6 + 11;
    private static final int TAG = 6 + 9;

    public static void main(String[] args) {
        Check check = new Check();
        noBuild(check);
        keyOfTheImage(check);
        keyOfTheLine(check);
        cacheOfTheYard(check);
        layersThatWent(check);
        firstFault(check);
        lengthGoesBefore(check);
        thirteenthGoesBefore(check);
        seventhGoesBehind(check);
        oneByOne(check);
        oneGoesBeforeThree(check);
        threeGoesBeforeFour(check);
        fiveGoesLast(check);
        stepsStay(check);
        sixtyKeys(check);
        sixtyKeysByHits(check);
        keyWithoutRoom(check);
        eachRecordOfABuild(check);
        hitsNeedNoRoom(check);
        tagThatTellsThat(check);
        lastLineThatHasSigns(check);
        tagStays(check);
        check.end();
    }

    /** "NONE, 0, 0 if there was none": no build, or one that threw. */
    private static void noBuild(Check check) {
        Yards x = new Yards();
        Check.write(x, START + "COPY a");
        check.refuses("build for tag 8", Check.ARGUMENT, () -> x.build(0, 8));
        int[] due = {-1, 0, 0};
        for (int what = 0; what < 3; what++) {
            check.due("built(" + what + ") ahead of the first build", x.built(what), due[what]);
        }
        check.due("build", x.build(1, 7), 0);
        check.due("no fault's line", x.built(0), -1);
        check.due("a step", x.built(1), 1);
        check.due("no hit", x.built(2), 0);
        check.due("again", x.build(1, 7), 0);
        check.due("a hit", x.built(2), 1);
        x.end(0);
        check.due("an empty file", x.build(0, 0), 1);
        check.due("its line", x.built(0), 0);
        check.due("the latest build did no step", x.built(1), 0);
        check.due("nor had a hit", x.built(2), 0);
    }

    /** "with p the bytes of the image as it would be then": layers and settings make another key. */
    private static void keyOfTheImage(Check check) {
        Yards x = new Yards();
        check.build(x, START + "COPY a\nCOPY a", 0, -1, 2, 0);
        check.build(x, START + "COPY a\nCOPY a\nCOPY a", 0, -1, 3, 2);
        check.build(x, START + "ENV v 1\nCOPY a", 0, -1, 1, 0);
        check.build(x, START + "ENV v 2\nCOPY a", 0, -1, 1, 0);
        check.build(x, START + "ENV v 2\nENV v 1\nCOPY a", 0, -1, 1, 1);
        check.build(x, START + "COPY a\nENV v 1\nCOPY a", 0, -1, 2, 1);
        check.build(x, START + "ENV w 3\nENV v 1\nCOPY a", 0, -1, 1, 0);
        check.build(x, START + "ENV v 1\nENV w 3\n\nCOPY a\n", 0, -1, 1, 1);
        check.due("keys", x.yard(0, 1), 7);
        check.due("two layers", x.blob(0, Model.digest("\2\1a\0\0")) + x.blob(0, Model.digest("")), 5);
    }

    /** "and the line's signs (as it stands in the build file) behind them" */
    private static void keyOfTheLine(Check check) {
        Yards x = new Yards();
        check.build(x, START + "ENV v 1\nCOPY a $v", 0, -1, 1, 0);
        check.build(x, START + "ENV v 1\nCOPY a 1", 0, -1, 1, 0);
        check.build(x, START + "ENV v 1\nCOPY a $v$w", 0, -1, 1, 0);
        check.build(x, START + "ENV v 1\nRUN put a 1", 0, -1, 1, 0);
        check.build(x, START + "ENV v 1\nRUN put a 1 ", 0, -1, 1, 0);
        check.due("one layer and one image", x.yard(0, 0), 2);
        check.due("five keys", x.yard(0, 1), 5);
        check.build(x, START + "ENV v 2\nCOPY a $v", 0, -1, 1, 0);
        check.tree(x, 0, 0, "a=2");
    }

    private static void cacheOfTheYard(Check check) {
        Yards x = new Yards();
        Check.build(x, 0, 0, START + "COPY a");
        check.due("in the other yard", Check.build(x, 1, 0, START + "COPY a"), 0);
        check.due("no hit", x.built(2), 0);
        TreeEdgesTest.transfer(check, x, 0, 0);
        Yards y = new Yards();
        Check.build(y, 0, 0, START + "COPY a");
        TreeEdgesTest.transfer(check, y, 0, 0);
        check.due("the layer is there, the key isn't", Check.build(y, 1, 0, START + "COPY a"), 0);
        check.due("no hit", y.built(2), 0);
        check.due("the key is there now", y.yard(1, 1), 1);
    }

    /** "If the yard's CACHE has that key, and the layer that it tells is there" */
    private static void layersThatWent(Check check) {
        Yards x = new Yards();
        Check.build(x, 0, 0, START + "COPY a\nCOPY b");
        x.untag(0, 0);
        check.due("all go", x.collect(0), 3);
        check.due("keys go with their layers", x.yard(0, 1), 0);
        check.build(x, START + "COPY a\nCOPY b", 0, -1, 2, 0);
        x.crash(0, LAYER + 3, -1);
        check.due("a layer is left, its key isn't", x.yard(0, 1), 0);
        check.due("the layer", x.yard(0, 0), 1);
        check.build(x, START + "COPY a", 0, -1, 1, 0);
        check.due("it isn't kept again", x.yard(0, 2), LAYER + KEY + IMAGE + TAG);
    }

    /** "the first that is found going on" */
    private static void firstFault(Check check) {
        check.fault(START + "RUN rm x\nwrong\nFROM 1", 3, 1);
        check.fault(START + "wrong\nRUN rm x", 1, 1);
        check.fault("FROM 1\nwrong", 2, 0);
        check.fault(START + "COPY a " + "x".repeat(200) + "\nwrong", 4, 1);
        check.fault(START + "COPY a\n\n\nCOPY a/b\nwrong", 3, 4);
    }

    /** "Of a line 4 for its length ... goes before all but what it is, told by the signs up to its first blank" */
    private static void lengthGoesBefore(Check check) {
        String signs = " " + "x".repeat(200);
        check.fault(START + "COPY" + signs, 4, 1);
        check.fault(START + "RUN" + signs, 4, 1);
        check.fault(START + "RUN rm x;" + signs, 4, 1);
        check.fault(START + "COPY a/b" + signs, 4, 1);
        check.fault(START + "COPX" + signs, 1, 1);
        check.fault(START + "RUNS" + signs, 1, 1);
        check.fault(START + "ENV" + signs, 1, 1);
        check.fault(START + "ENV v" + signs, 1, 1);
        check.fault(START + "FROM" + signs, 1, 1);
        check.fault("FROM" + signs, 1, 0);
        check.fault("COPY" + signs, 1, 0);
        check.fault(START + signs, 1, 1);
        Yards x = new Yards();
        Fill.keys(x, 0, 0, 60);
        check.build(x, START + "COPY a" + signs, 4, 1, 0, 0);
    }

    /** "or for a thirteenth layer": also for a line that is too long, that is wrong, or whose command can't be done. */
    private static void thirteenthGoesBefore(Check check) {
        String twelve = START + "COPY a\n".repeat(12);
        String[] lines = {"COPY b", "COPY", "COPY A", "COPY a/b", "RUN", "RUN rm b", "RUN ;", "COPY b " + "x".repeat(200)};
        for (String line : lines) {
            check.fault(twelve + line, 4, 13);
        }
        String[] others = {"COPYX", "RUNX", "FROM empty", " ", "ENV", "ENV a"};
        for (String line : others) {
            check.fault(twelve + line, 1, 13);
        }
        check.fault(twelve + "ENV a b", 0, -1);
    }

    /** "or by ENV's being as it must be" */
    private static void seventhGoesBehind(Check check) {
        String six = START + "ENV a 1\nENV b 1\nENV c 1\nENV d 1\nENV e 1\nENV f 1\n";
        check.fault(six + "ENV g 1", 4, 7);
        check.fault(six + "ENV g 1234567890123", 1, 7);
        check.fault(six + "ENV ghijklmno 1", 1, 7);
        check.fault(six + "ENV g", 1, 7);
        check.fault(six + "ENV G 1", 1, 7);
        check.fault(six + "ENV f 2\nCOPY a", 0, -1);
        check.fault(six + "ENV f 2\nENV ff 2", 4, 8);
    }

    /** "commands are looked at, and done, one by one" */
    private static void oneByOne(Check check) {
        check.fault(START + "RUN rm a;wrong", 3, 1);
        check.fault(START + "RUN wrong;rm a", 1, 1);
        check.fault(START + "RUN mkdir a;rm a;rm a;wrong", 3, 1);
        check.fault(START + "RUN mkdir a;wrong;rm b", 1, 1);
        String great = START + "RUN put a " + "x".repeat(125) + ";join a a;join a a;join a a\n";
        check.fault(great + "RUN add a y;wrong", 4, 2);
        check.fault(great + "RUN add a y;rm b", 4, 2);
        check.fault(great + "RUN wrong;add a y", 1, 2);
        check.fault(great + "RUN rm b;add a y", 3, 2);
    }

    /** "1 of one goes before 3": the path of a command that can't be done either. */
    private static void oneGoesBeforeThree(Check check) {
        String[] wrong = {"mkdir a/b/C", "rm a-", "put a/b/c/d/e x", "add A x", "move a B", "move A b", "move a b c", "join a B",
            "join a", "rm a b"};
        for (String command : wrong) {
            check.fault(START + "RUN " + command, 1, 1);
        }
    }

    /** "that before 4": a command that can't be done in a tree that is full. */
    private static void threeGoesBeforeFour(Check check) {
        String great = START + "RUN put a " + "x".repeat(125) + ";join a a;join a a;join a a\n";
        check.fault(great + "RUN put b/c " + "y".repeat(50), 3, 2);
        check.fault(great + "COPY b/c y", 3, 2);
        check.fault(great + "COPY a/c y", 3, 2);
        check.fault(great + "RUN add b y", 3, 2);
        check.fault(great + "RUN join a b", 3, 2);
        check.fault(great + "COPY B y", 1, 2);
    }

    /** A step that has a fault of its own needs no room. */
    private static void fiveGoesLast(Check check) {
        Yards x = new Yards();
        Fill.blobs(x, 0, 0, 60);
        check.build(x, START + "COPY A", 1, 1, 0, 0);
        check.build(x, START + "COPY a/b", 3, 1, 0, 0);
        check.build(x, START + "COPY a " + "x".repeat(200), 4, 1, 0, 0);
        check.build(x, "FROM 7\nCOPY a", 2, 0, 0, 0);
        check.build(x, START + "COPY a\nwrong", 5, 1, 0, 0);
        check.build(x, START + "ENV a b\nwrong", 1, 2, 0, 0);
    }

    /** "What steps have kept ahead of a fault stays" */
    private static void stepsStay(Check check) {
        String[] lines = {"wrong", "RUN rm x", "COPY a " + "x".repeat(200), "ENV a"};
        int[] faults = {1, 3, 4, 1};
        for (int i = 0; i < lines.length; i++) {
            Yards x = new Yards();
            check.build(x, START + "COPY a\nCOPY b\n" + lines[i] + "\nCOPY c", faults[i], 3, 2, 0);
            check.due("two layers", x.yard(0, 0), 2);
            check.due("two keys", x.yard(0, 1), 2);
            check.due("their records", x.yard(0, 2), 2 * (LAYER + KEY));
            check.due("no tag", x.tag(0, 0), 0);
            check.build(x, START + "COPY a\nCOPY b", 0, -1, 2, 2);
            check.tree(x, 0, 0, "a= b=");
        }
        Yards y = new Yards();
        check.build(y, START + "ENV a b\nwrong", 1, 2, 0, 0);
        check.due("settings write nothing", y.yard(0, 2), 0);
        check.build(y, START + "RUN put a;put b;rm c", 3, 1, 0, 0);
        check.due("nor does a step with a fault", y.yard(0, 2), 0);
    }

    /** "for a 61st key" */
    private static void sixtyKeys(Check check) {
        Yards x = new Yards();
        Fill.keys(x, 0, 0, 59);
        check.due("keys", x.yard(0, 1), 59);
        check.build(x, START + "COPY a 1\nCOPY a 2", 5, 2, 1, 0);
        check.due("a 60th", x.yard(0, 1), 60);
        check.build(x, START + "COPY a 1", 0, -1, 1, 1);
        Yards y = new Yards();
        Fill.keys(y, 0, 0, 60);
        check.build(y, START + "COPY a 1", 5, 1, 0, 0);
        check.due("no 61st", y.yard(0, 1), 60);
        check.due("the other yard has room", Check.build(y, 1, 0, START + "COPY a 1"), 0);
        y.untag(0, 0);
        y.collect(0);
        check.due("keys go in a collection", y.yard(0, 1), 0);
        check.build(y, START + "COPY a 1", 0, -1, 1, 0);
    }

    private static void sixtyKeysByHits(Check check) {
        Yards x = new Yards();
        Fill.keys(x, 0, 0, 60);
        check.build(x, START + "ENV k a\n" + "COPY k\n".repeat(12), 0, -1, 12, 12);
        check.build(x, START + "ENV k b\n" + "COPY k\n".repeat(12), 0, -1, 12, 12);
        check.build(x, START + "ENV k b\n" + "COPY k\n".repeat(3) + "ENV x y", 0, -1, 3, 3);
        check.due("keys", x.yard(0, 1), 60);
    }

    /** "also the layer of a step whose key has no room, which is not counted as done" */
    private static void keyWithoutRoom(Check check) {
        Yards x = new Yards();
        Fill.keys(x, 0, 0, 60);
        int blobs = x.yard(0, 0);
        int size = x.yard(0, 2);
        long told = x.tag(0, 0);
        check.build(x, START + "ENV k a\nCOPY k\nCOPY a 1\nCOPY a 2", 5, 3, 1, 1);
        check.due("its layer stays", x.yard(0, 0), blobs + 1);
        check.due("its record, too", x.yard(0, 2), size + LAYER + 1);
        check.due("its bytes", x.byteOf(0, Model.digest("\2\1a\1\0001"), 5), '1');
        check.due("the tag tells the same", x.tag(0, 0), told);
        check.build(x, START + "COPY a 1", 5, 1, 0, 0);
        check.due("it isn't written again", x.yard(0, 2), size + LAYER + 1);
    }

    /** "or in the journal": each record of a build with room for it to the byte, and with one byte less. */
    private static void eachRecordOfABuild(Check check) {
        int[] ends = {LAYER, LAYER + KEY, LAYER + KEY + IMAGE, LAYER + KEY + IMAGE + TAG};
        for (int i = 0; i < ends.length; i++) {
            for (int left = ends[i] - 1; left <= ends[i]; left++) {
                int whole = left < ends[i] ? i : i + 1;
                Yards x = new Yards();
                Fill.journal(x, 0, left);
                int blobs = x.yard(0, 0);
                int keys = x.yard(0, 1);
                check.due("with " + left, Check.build(x, 0, 3, START + "\nCOPY n\n\n"), whole == 4 ? 0 : 5);
                check.due("its line", x.built(0), whole == 4 ? -1 : 2);
                check.due("steps", x.built(1), whole < 2 ? 0 : 1);
                check.due("hits", x.built(2), 0);
                check.due("blobs", x.yard(0, 0) - blobs, whole == 0 ? 0 : whole < 3 ? 1 : 2);
                check.due("keys", x.yard(0, 1) - keys, whole < 2 ? 0 : 1);
                check.due("journal", x.yard(0, 2), 40000 - left + (whole == 0 ? 0 : ends[whole - 1]));
                check.holds("the tag", x.tag(0, 3) != 0 == (whole == 4));
                check.due("again", Check.build(x, 0, 3, START + "\nCOPY n"), whole == 4 ? 0 : 5);
                check.due("hits then", x.built(2), whole < 2 ? 0 : 1);
            }
        }
    }

    /** What is there is not written again, so that it needs no room in a full journal. */
    private static void hitsNeedNoRoom(Check check) {
        Yards x = new Yards();
        Check.build(x, 0, 5, START + "COPY n\nCOPY m");
        Check.build(x, 0, 4, START + "COPY n");
        int size = x.yard(0, 2);
        x.sync(0);
        Yards y = x.twin();
        check.due("all are hits", Check.build(y, 0, 4, START + "COPY n"), 0);
        check.due("nothing was written", y.yard(0, 2), size);
        Yards full = new Yards();
        Fill.journal(full, 0, 0);
        check.due("FROM an image", Check.build(full, 0, 7, "FROM 7"), 0);
        check.due("FROM another one", Check.build(full, 0, 7, "FROM 0"), 5);
        check.due("its line", full.built(0), 0);
        check.due("the journal is full", full.yard(0, 2), 40000);
        check.due("the layer is there", full.blob(0, Model.digest("\2\1c\1\0z")), 6);
        check.due("but its key has no room", Check.build(full, 0, 7, START + "COPY c z"), 5);
        check.due("no step", full.built(1), 0);
        check.due("the journal is full", full.yard(0, 2), 40000);
    }

    /** "nor a tag that tells that already" */
    private static void tagThatTellsThat(Check check) {
        Yards full = new Yards();
        Fill.journal(full, 0, 15);
        check.due("room for a tag", Check.build(full, 0, 1, "FROM 7"), 0);
        check.due("the journal is full", full.yard(0, 2), 40000);
        check.due("it tells that already", Check.build(full, 0, 1, "FROM 7"), 0);
        check.due("another tag", Check.build(full, 0, 2, "FROM 7"), 5);
        check.due("it tells none", full.tag(0, 2), 0);
        check.due("another image", Check.build(full, 0, 1, "FROM 0"), 5);
        check.due("it tells the same", full.tag(0, 1), full.tag(0, 7));
        full.retag(0, 1, 7);
        full.retag(0, 7, 1);
        check.due("the journal is full", full.yard(0, 2), 40000);
        Yards less = new Yards();
        Fill.journal(less, 0, 14);
        check.due("no room for a tag", Check.build(less, 0, 1, "FROM 7\n\n"), 5);
        check.due("at the line of FROM", less.built(0), 0);
    }

    /** "the end's fault 5 is at the last line that has signs" */
    private static void lastLineThatHasSigns(Check check) {
        Yards x = new Yards();
        Fill.blobs(x, 0, 0, 60);
        check.build(x, "\n\nFROM empty\nENV a b\n\n\n", 5, 3, 0, 0);
        check.build(x, "\nFROM empty\n\n\nENV a b", 5, 4, 0, 0);
        check.build(x, "FROM 0\nENV a b\nENV b c\n", 5, 2, 0, 0);
        check.build(x, "\n\nFROM empty", 5, 2, 0, 0);
    }

    /** A tag tells what it told if a build for it has a fault. */
    private static void tagStays(Check check) {
        Yards x = new Yards();
        Check.build(x, 0, 0, START + "COPY a");
        long told = x.tag(0, 0);
        String[] texts = {"", "wrong", "FROM 5", START + "COPY b\nRUN rm c", START + "COPY " + "x".repeat(200)};
        for (String text : texts) {
            check.holds("a fault", Check.build(x, 0, 0, text) != 0);
            check.due("the tag tells the same", x.tag(0, 0), told);
        }
        check.due("no image was kept", x.yard(0, 0), 3);
    }
}
