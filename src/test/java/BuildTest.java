/** Promises 4 and 5 with terms 3: build files, their faults and their steps. */
public final class BuildTest {
    private static final String START = "FROM empty\n";

    public static void main(String[] args) {
        Check check = new Check();
        from(check);
        lines(check);
        env(check);
        fill(check);
        copy(check);
        runWords(check);
        commands(check);
        move(check);
        lengths(check);
        greatTrees(check);
        greatFiles(check);
        manyLayers(check);
        manySettings(check);
        cache(check);
        keys(check);
        noRoomForBlobs(check);
        noRoomForKeys(check);
        noRoomInTheJournal(check);
        arguments(check);
        check.end();
    }

    private static void from(Check check) {
        Yards x = new Yards();
        check.build(x, "", 1, 0, 0, 0);
        check.build(x, "\n\n\n", 1, 0, 0, 0);
        check.build(x, "\n\nFROM empty\n\n", 0, -1, 0, 0);
        check.build(x, "\n\nFROM 7\n", 2, 2, 0, 0);
        String[] wrong = {"FROM", "FROM ", "FROM  empty", "FROM empty ", " FROM empty", "FROM 8", "FROM 9", "FROM 00",
            "FROM /", "FROM :", "from empty", "FROM Empty", "FROM emptyx", "FROMempty", "FROM0", "0", " ", "x",
            "COPY a b", "ENV a b", "RUN mkdir a", "FROM 0 ", "FROM  0"};
        for (String line : wrong) {
            check.build(x, "\n" + line, 1, 1, 0, 0);
        }
        check.build(x, "\n\nFROM empty\n\n", 0, -1, 0, 0);
        check.build(x, START + "FROM empty", 1, 1, 0, 0);
        check.build(x, START + "FROM 0", 1, 1, 0, 0);
        check.build(x, "FROM 1", 2, 0, 0, 0);
        check.due("a tag of the other yard", Check.build(x, 1, 1, "FROM 0"), 2);
        check.build(x, "FROM 0\nENV a b\nCOPY f $a", 0, -1, 1, 0);
        check.build(x, "FROM 0\nCOPY g $a$a", 0, -1, 1, 0);
        check.tree(x, 0, 0, "f=b g=bb");
        check.due("its layers", x.image(0, 0, 0), 2);
        check.due("its settings", x.image(0, 0, 1), 1);
        check.build(x, "COPY a " + "b".repeat(300), 1, 0, 0, 0);
    }

    private static void lines(Check check) {
        Yards x = new Yards();
        String[] wrong = {" ", "COPYa b", "COPY$a b", " COPY a b", "RUNmkdir a", "run mkdir a", "mkdir a", "ENVa b",
            "$a b c", "RUN$a"};
        for (String line : wrong) {
            check.build(x, START + "COPY f 1\n\n" + line + "\nCOPY g 1", 1, 3, 1, x.yard(0, 1) == 0 ? 0 : 1);
        }
        check.due("what a step kept ahead of a fault stays", x.yard(0, 0), 1);
        check.due("and its key", x.yard(0, 1), 1);
        check.due("no tag tells it", x.tag(0, 0), 0);
    }

    private static void env(Check check) {
        Yards x = new Yards();
        String[] wrong = {"ENV", "ENV ", "ENV a", "ENV a ", "ENV  a b", "ENV a  b", "ENV a b ", "ENV a b c", "ENV A b",
            "ENV a1 b", "ENV abcdefghi b", "ENV a 1234567890123", "ENV 1 b", "ENV a_b c", "ENV  b", "ENV `a b", "ENV { b"};
        for (String line : wrong) {
            check.build(x, START + line, 1, 1, 0, 0);
        }
        check.build(x, START + "ENV abcdefgh 123456789012\nENV z ~\nENV az !$;/", 0, -1, 0, 0);
        check.due("settings", x.image(0, 0, 1), 3);
        byte[] image = Check.blob(x, 0, x.tag(0, 0));
        byte[] due = "M\0\3\10abcdefgh\014123456789012\2az\4!$;/\1z\1~".getBytes(
                java.nio.charset.StandardCharsets.ISO_8859_1);
        check.holds("the image's bytes, its settings in order", java.util.Arrays.equals(image, due));
        check.build(x, START + "ENV ab 1\nENV a 2\nENV ab 3\nENV b 4\nENV aa 5", 0, -1, 0, 0);
        image = Check.blob(x, 0, x.tag(0, 0));
        due = "M\0\4\1a\0012\2aa\0015\2ab\0013\1b\0014".getBytes(java.nio.charset.StandardCharsets.ISO_8859_1);
        check.holds("a name that ends goes first, and a value set anew", java.util.Arrays.equals(image, due));
    }

    private static void fill(Check check) {
        Yards x = new Yards();
        check.build(x, START + "ENV v $w\nENV w x\nENV abcdefgh L\nENV s ;rm\nENV p a/b\n"
                + "COPY f $v$w.$.$vw.$v1$W-$abcdefghi$$\nRUN mkdir a;put $p 1;put $w$w 2$s $p", 0, -1, 2, 0);
        check.tree(x, 0, 0, "a/ f=$wx...$w1W-Li xx=2");
        check.build(x, START + "ENV v a\nCOPY $u b", 1, 2, 0, 0);
        check.build(x, START + "ENV v a\nRUN $v b", 1, 2, 0, 0);
        check.build(x, START + "ENV v rm\nENV w mkdir\nRUN $w a;$v a", 0, -1, 1, 0);
        check.tree(x, 0, 0, "");
        check.build(x, START + "ENV v $v\nENV w $v\nCOPY $w x", 1, 3, 0, 0);
    }

    private static void copy(Check check) {
        Yards x = new Yards();
        check.build(x, START + "COPY a  two  words \nCOPY b\nCOPY c \nCOPY d x;y", 0, -1, 4, 0);
        check.tree(x, 0, 0, "a= two  words  b= c= d=x;y");
        String[] wrong = {"COPY", "COPY ", "COPY  a b", "COPY A b", "COPY a/ b", "COPY /a b", "COPY a//b c",
            "COPY abcdefghi x", "COPY a/b/c/d/e x", "COPY a-b x", "COPY a;b x", "COPY a:b", "COPY a` x", "COPY a{ x"};
        for (String line : wrong) {
            check.build(x, START + line, 1, 1, 0, 0);
        }
        check.build(x, START + "COPY abcdefgh x\nCOPY 09az x", 0, -1, 2, 0);
        String name = "abcdefgh";
        String deep = name + "/" + name + "/" + name;
        check.build(x, START + "ENV n " + name + "\nRUN mkdir $n;mkdir $n/$n;mkdir $n/$n/$n\nCOPY " + deep + "/" + name
                + " x", 0, -1, 2, 0);
        check.tree(x, 0, 0, name + "/ " + name + "/" + name + "/ " + deep + "/ " + deep + "/" + name + "=x");
        check.build(x, "FROM 0\nCOPY " + deep + "/" + name + "i x", 1, 1, 0, 0);
        check.build(x, "FROM 0\nCOPY " + deep + "/" + name + "/a x", 1, 1, 0, 0);
        check.build(x, "FROM 0\nCOPY " + deep + "/z y\nRUN move " + deep + "/z " + deep + "/zyxwvuts", 0, -1, 2, 0);
        check.due("the last sign of the longest path", x.entry(0, 0, 4, 34, 0), 's');
        check.due("and none behind it", x.entry(0, 0, 4, 35, 0), -1);
        check.build(x, START + "COPY a/b x", 3, 1, 0, 0);
        check.build(x, START + "COPY a x\nCOPY a/b x", 3, 2, 1, 0);
        check.build(x, START + "RUN mkdir a\nCOPY a x", 3, 2, 1, 0);
        check.build(x, START + "COPY a x\nCOPY a y", 0, -1, 2, 1);
        check.tree(x, 0, 0, "a=y");
    }

    private static void runWords(Check check) {
        Yards x = new Yards();
        String[] wrong = {"RUN", "RUN ", "RUN  ", "RUN ;mkdir a", "RUN mkdir a;", "RUN mkdir a; ;mkdir b", "RUN mkdir",
            "RUN mkdir  a", "RUN mkdir a b", "RUN rm", "RUN rm  a", "RUN put", "RUN put  a", "RUN add", "RUN move a",
            "RUN move a  b", "RUN move a b c", "RUN join a", "RUN join", "RUN MKDIR a", "RUN copy a b", "RUN COPY a b",
            "RUN ENV a b", "RUN mkdira", "RUN put A b", "RUN move a B", "RUN mkdir a\\", "RUN rmx a", "RUN pu a b"};
        for (String line : wrong) {
            check.build(x, START + line, 1, 1, 0, 0);
        }
        check.build(x, START + "RUN   mkdir a  ;  put a/b  x y   ;put c;put d ;put e  ", 0, -1, 1, 0);
        check.tree(x, 0, 0, "a/ a/b= x y c= d= e=");
        check.build(x, START + "RUN mkdir a;rm b;mkdir", 3, 1, 0, 0);
        check.build(x, START + "RUN mkdir a;mkdir;rm b", 1, 1, 0, 0);
        check.build(x, START + "RUN rm a b", 1, 1, 0, 0);
    }

    private static void commands(Check check) {
        Yards x = new Yards();
        String[] cant = {"mkdir a/b", "rm a", "add a x", "join a a", "move a b", "put a/b/c x", "mkdir a;mkdir a",
            "put a;mkdir a", "put a;mkdir a/b", "put a;put a/b", "mkdir a;put a x", "mkdir a;add a x", "mkdir a;rm a/b",
            "put a;join a b", "put a;join b a", "put a;mkdir d;join a d", "put a;mkdir d;join d a", "put a;rm a;rm a",
            "mkdir a;rm a;put a/b", "mkdir a;put a/b;rm a;rm a/b"};
        for (String commands : cant) {
            check.build(x, START + "RUN " + commands, 3, 1, 0, 0);
        }
        check.build(x, START + "RUN put a 1;add a 2 3;add a;put b;add b x;join a b;join b b;join b a", 0, -1, 1, 0);
        check.tree(x, 0, 0, "a=12 3x b=xx12 3x");
        check.build(x, START + "RUN mkdir a;mkdir a/b;mkdir a/b/c;put a/b/c/d 1;mkdir ab;mkdir a0;put a1;rm a", 0, -1, 1, 0);
        check.tree(x, 0, 0, "a0/ a1= ab/");
        check.build(x, START + "RUN put a 1;put a 2;put a", 0, -1, 1, 0);
        check.tree(x, 0, 0, "a=");
    }

    private static void move(Check check) {
        Yards x = new Yards();
        String start = START + "RUN mkdir a;mkdir a/b;put a/b/c 1;put a/f 2;put g 3;mkdir m;mkdir m/n;mkdir a0\n";
        Check.build(x, 0, 1, start);
        String[] cant = {"move a a", "move a g", "move a a/x", "move a a/b/x", "move a x/y", "move a g/y", "move g a",
            "move a m/n/x", "move a/b m/n/x;rm x", "move g g/x", "move z z/a", "move z y", "move a/b/c a/b"};
        for (String command : cant) {
            check.build(x, "FROM 1\nRUN " + command, 3, 1, 0, 0);
        }
        check.build(x, "FROM 1\nRUN move a/b m/n/x", 0, -1, 1, 0);
        check.tree(x, 0, 0, "a/ a/f=2 a0/ g=3 m/ m/n/ m/n/x/ m/n/x/c=1");
        check.build(x, "FROM 1\nRUN move a z", 0, -1, 1, 0);
        check.tree(x, 0, 0, "a0/ g=3 m/ m/n/ z/ z/b/ z/b/c=1 z/f=2");
        check.build(x, "FROM 1\nRUN move a a0/longname", 0, -1, 1, 0);
        check.tree(x, 0, 0, "a0/ a0/longname/ a0/longname/b/ a0/longname/b/c=1 a0/longname/f=2 g=3 m/ m/n/");
        check.build(x, "FROM 1\nRUN move g a/b/g;move a/b 0;move m aa", 0, -1, 1, 0);
        check.tree(x, 0, 0, "0/ 0/c=1 0/g=3 a/ a/f=2 a0/ aa/ aa/n/");
        check.build(x, "FROM 1\nRUN move a/b/c a/b/c/d/e", 1, 1, 0, 0);
    }

    private static void lengths(Check check) {
        String copy = "COPY a ";
        check.build(new Yards(), START + copy + "x".repeat(193), 0, -1, 1, 0);
        check.build(new Yards(), START + copy + "x".repeat(194), 4, 1, 0, 0);
        Yards x = new Yards();
        check.build(x, START + "ENV v 123456789012\n" + copy + "x".repeat(181) + "$v", 0, -1, 1, 0);
        check.due("its bytes", x.entry(0, 0, 0, 0, 3), 193);
        check.build(new Yards(), START + "ENV v 123456789012\n" + copy + "x".repeat(182) + "$v", 4, 2, 0, 0);
        check.build(new Yards(), START + copy + "x".repeat(190) + "$abcdefgh", 0, -1, 1, 0);
        check.build(new Yards(), START + "COPY A " + "x".repeat(194), 4, 1, 0, 0);
        check.build(new Yards(), START + "RUN rm x;" + " ".repeat(192), 4, 1, 0, 0);
        check.build(new Yards(), START + "RUN rm x;" + " ".repeat(191), 3, 1, 0, 0);
        check.build(new Yards(), START + "RUN" + " ".repeat(198), 4, 1, 0, 0);
        check.build(new Yards(), START + "RUN" + " ".repeat(197), 1, 1, 0, 0);
        check.build(new Yards(), START + "COPYx " + "x".repeat(300), 1, 1, 0, 0);
        check.build(new Yards(), START + "ENV a " + "x".repeat(300), 1, 1, 0, 0);
    }

    private static void greatTrees(Check check) {
        Yards x = new Yards();
        StringBuilder run = new StringBuilder("RUN mkdir d");
        for (int i = 0; i < 20; i++) {
            run.append(";put ").append((char) ('e' + i));
        }
        StringBuilder more = new StringBuilder("\nRUN put 0");
        for (int i = 0; i < 18; i++) {
            more.append(";put d/").append((char) ('a' + i));
        }
        Check.build(x, 0, 1, START + run + more);
        check.due("forty entries", x.image(0, 1, 2), 40);
        check.build(x, "FROM 1\nCOPY d/z", 4, 1, 0, 0);
        check.build(x, "FROM 1\nRUN mkdir z", 4, 1, 0, 0);
        check.build(x, "FROM 1\nRUN mkdir z;rm z", 4, 1, 0, 0);
        check.build(x, "FROM 1\nRUN mkdir z;rm nothing", 4, 1, 0, 0);
        check.build(x, "FROM 1\nRUN mkdir z/y;rm", 3, 1, 0, 0);
        check.build(x, "FROM 1\nRUN rm d/a;mkdir z", 0, -1, 1, 0);
        check.due("forty entries again", x.image(0, 0, 2), 40);
        check.build(x, "FROM 1\nRUN move d z", 0, -1, 1, 0);
        check.build(x, "FROM 1\nCOPY 0 x", 0, -1, 1, 0);
    }

    private static void greatFiles(Check check) {
        Yards x = new Yards();
        Check.build(x, 0, 1, START + "RUN put a " + "x".repeat(125) + ";join a a;join a a;join a a");
        check.due("a thousand bytes", x.entry(0, 1, 0, 0, 3), 1000);
        check.build(x, "FROM 1\nRUN add a y", 4, 1, 0, 0);
        check.build(x, "FROM 1\nRUN join a a", 4, 1, 0, 0);
        check.build(x, "FROM 1\nRUN put b y", 4, 1, 0, 0);
        check.build(x, "FROM 1\nCOPY b y", 4, 1, 0, 0);
        check.build(x, "FROM 1\nRUN put b y;rm b", 4, 1, 0, 0);
        check.build(x, "FROM 1\nRUN put b;add b;mkdir c;join a b", 0, -1, 1, 0);
        check.build(x, "FROM 1\nRUN put a y;add a y", 0, -1, 1, 0);
        check.tree(x, 0, 0, "a=yy");
        StringBuilder adds = new StringBuilder();
        for (int i = 0; i < 24; i++) {
            adds.append(i == 0 ? "" : ";").append("add a y");
        }
        Check.build(x, 0, 2, START + "RUN put a " + "x".repeat(61) + ";join a a;join a a;join a a;join a a");
        check.build(x, "FROM 2\nRUN " + adds, 0, -1, 1, 0);
        check.due("all were added", x.entry(0, 0, 0, 0, 3), 1000);
        check.due("one behind the other", x.entry(0, 0, 0, 975, 1), 'x');
        check.due("one behind the other", x.entry(0, 0, 0, 976, 1), 'y');
    }

    private static void manyLayers(Check check) {
        Yards x = new Yards();
        StringBuilder text = new StringBuilder("FROM empty");
        for (int i = 0; i < 12; i++) {
            text.append("\nCOPY a ").append(i);
        }
        check.build(x, text.toString(), 0, -1, 12, 0);
        check.build(x, text + "\nCOPY b 0", 4, 13, 12, 12);
        check.build(x, "FROM 0\nENV a b", 0, -1, 0, 0);
        check.build(x, "FROM 0\nCOPY b", 4, 1, 0, 0);
        check.build(x, "FROM 0\nCOPY", 4, 1, 0, 0);
        check.build(x, "FROM 0\nRUN", 4, 1, 0, 0);
        check.build(x, "FROM 0\nRUN rm", 4, 1, 0, 0);
        check.build(x, "FROM 0\nRUNX", 1, 1, 0, 0);
        check.due("its layers", x.image(0, 0, 0), 12);
    }

    private static void manySettings(Check check) {
        Yards x = new Yards();
        String six = START + "ENV a 1\nENV b 2\nENV c 3\nENV d 4\nENV e 5\nENV f 6\n";
        check.build(x, six + "ENV f 7\nENV a 8", 0, -1, 0, 0);
        check.due("its settings", x.image(0, 0, 1), 6);
        check.build(x, six + "ENV g 7", 4, 7, 0, 0);
        check.build(x, six + "ENV g 7 ", 1, 7, 0, 0);
        check.build(x, "FROM 0\nENV ab 7", 4, 1, 0, 0);
        check.build(x, "FROM 0\nENV c 7\nCOPY f $a$b$c$d$e$f", 0, -1, 1, 0);
        check.tree(x, 0, 0, "f=827457");
    }

    private static void cache(Check check) {
        Yards x = new Yards();
        String text = START + "COPY a 1\nRUN put b 2\nENV v w\nCOPY c $v";
        check.build(x, text, 0, -1, 3, 0);
        check.build(x, text, 0, -1, 3, 3);
        check.build(x, text + "\nCOPY d", 0, -1, 4, 3);
        check.build(x, START + "COPY a 1\nRUN  put b 2", 0, -1, 2, 1);
        check.build(x, START + "ENV v w\nCOPY a 1\nRUN put b 2", 0, -1, 2, 0);
        check.build(x, START + "COPY a 1\nRUN put b 2\nENV v x\nCOPY c $v", 0, -1, 3, 2);
        check.build(x, START + "COPY a 1\nRUN put b 2\nENV v w\nCOPY c w", 0, -1, 3, 2);
        check.due("the other yard has a cache of its own", Check.build(x, 1, 0, text), 0);
        check.due("no hits there", x.built(2), 0);
        check.due("the same image", x.tag(1, 0), tagOf(text));
        check.build(x, START + "COPY a 1\nRUN rm b", 3, 2, 1, 1);
        check.due("built stays until the next build", x.built(0), 2);
        check.refuses("a build that throws", Check.ARGUMENT, () -> x.build(0, 8));
        check.due("changes nothing", x.built(0), 2);
    }

    private static long tagOf(String text) {
        Yards x = new Yards();
        Check.build(x, 0, 5, text);
        return x.tag(0, 5);
    }

    /** A key is the digest of the image's bytes as it would be then and the line as it stands. */
    private static void keys(Check check) {
        Yards x = new Yards();
        Check.build(x, 0, 0, START + "ENV v w\nCOPY a $v");
        byte[] journal = Check.journal(x, 0);
        long key = Model.digest("M\0\1\1v\1wCOPY a $v");
        long layer = Model.digest("\2\1a\1\0w");
        check.due("the layer", x.layer(0, 0, 0), layer);
        int at = 6 + 6;
        check.due("the key's record", journal[at], 4);
        for (int i = 0; i < 8; i++) {
            check.due("the key's byte " + i, journal[at + 5 + i] & 255, key >>> 8 * i & 255);
            check.due("its layer's byte " + i, journal[at + 13 + i] & 255, layer >>> 8 * i & 255);
        }
    }

    private static void noRoomForBlobs(Check check) {
        Yards x = new Yards();
        Fill.blobs(x, 0, 0, 58);
        check.due("blobs", x.yard(0, 0), 58);
        int keys = x.yard(0, 1);
        check.build(x, START + "COPY a x\n\n", 0, -1, 1, 0);
        check.build(x, START + "COPY a x\nCOPY a y", 5, 2, 1, 1);
        check.due("blobs", x.yard(0, 0), 60);
        check.due("keys", x.yard(0, 1), keys + 1);
        check.build(x, START + "COPY a x\nCOPY a x\n\n", 5, 2, 1, 1);
        check.build(x, START + "ENV a b\n\n", 5, 1, 0, 0);
        check.build(x, START + "RUN put a x", 0, -1, 1, 0);
        check.due("the same layer under another key", x.yard(0, 1), keys + 2);
        check.build(x, START + "ENV a b\nRUN put a x\n\n\n", 5, 2, 1, 0);
    }

    private static void noRoomForKeys(Check check) {
        Yards x = new Yards();
        Fill.keys(x, 0, 0, 60);
        check.due("keys", x.yard(0, 1), 60);
        int blobs = x.yard(0, 0);
        check.build(x, START + "ENV k a\nCOPY k\nCOPY a 1", 5, 3, 1, 1);
        check.due("the layer of a step whose key has no room stays", x.yard(0, 0), blobs + 1);
        check.due("keys", x.yard(0, 1), 60);
        check.build(x, START + "ENV k a\nCOPY k\nCOPY a 1", 5, 3, 1, 1);
        check.due("and is not kept again", x.yard(0, 0), blobs + 1);
        check.build(x, START + "ENV k a\nCOPY k\nENV a b", 0, -1, 1, 1);
    }

    private static void noRoomInTheJournal(Check check) {
        int layer = 6 + 5;
        int key = 6 + 16;
        int image = 6 + 11;
        int tag = 6 + 9;
        int[] ends = {layer, layer + key, layer + key + image, layer + key + image + tag};
        for (int end : ends) {
            for (int left = end - 1; left <= end; left++) {
                Yards x = new Yards();
                Fill.journal(x, 0, left);
                check.due("the journal is filled", x.yard(0, 2), 40000 - left);
                int blobs = x.yard(0, 0);
                int keys = x.yard(0, 1);
                boolean isRoom = left >= ends[3];
                check.build(x, START + "COPY b\n\n", isRoom ? 0 : 5, isRoom ? -1 : 1, left < ends[1] ? 0 : 1, 0);
                check.due("blobs that were kept", x.yard(0, 0) - blobs, left < ends[0] ? 0 : left < ends[2] ? 1 : 2);
                check.due("keys that were kept", x.yard(0, 1) - keys, left < ends[1] ? 0 : 1);
                int written = left < ends[0] ? 0 : left < ends[1] ? ends[0] : left < ends[2] ? ends[1]
                        : left < ends[3] ? ends[2] : ends[3];
                check.due("bytes that were written", x.yard(0, 2) - 40000 + left, written);
            }
        }
    }

    private static void arguments(Check check) {
        Yards x = new Yards();
        Check.write(x, START);
        check.refuses("build(-1, 0)", Check.ARGUMENT, () -> x.build(-1, 0));
        check.refuses("build(2, 0)", Check.ARGUMENT, () -> x.build(2, 0));
        check.refuses("build(0, -1)", Check.ARGUMENT, () -> x.build(0, -1));
        check.refuses("build(1, 8)", Check.ARGUMENT, () -> x.build(1, 8));
        check.refuses("built(-1)", Check.ARGUMENT, () -> x.built(-1));
        check.refuses("built(3)", Check.ARGUMENT, () -> x.built(3));
        check.due("build(1, 7)", x.build(1, 7), 0);
    }
}
