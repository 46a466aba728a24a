import java.nio.charset.StandardCharsets;

/** Terms 1 and 2: the items of a layer's bytes, and trees that come of them. */
public final class LayerTest {
    private static final String START = "FROM empty\nRUN mkdir a;put a/b 1;put a/c 2;mkdir d;put d/e 3;put f 4\n";

    public static void main(String[] args) {
        Check check = new Check();
        kinds(check);
        gone(check);
        emptied(check);
        turned(check);
        nothing(check);
        longFile(check);
        order(check);
        digests(check);
        check.end();
    }

    /** The bytes of the layer that commands make of the tree of START. */
    private static void layer(Check check, String commands, String due, String tree) {
        Yards x = new Yards();
        check.due("build of " + commands, Check.build(x, 1, 3, START + "RUN " + commands), 0);
        String got = new String(Check.blob(x, 1, x.layer(1, 3, 1)), StandardCharsets.ISO_8859_1);
        check.holds("the layer of " + commands, got.equals(due));
        check.due("its digest", x.layer(1, 3, 1), Model.digest(due));
        check.tree(x, 1, 3, tree);
    }

    private static void kinds(Check check) {
        layer(check, "mkdir g", "\1\1g\0\0", "a/ a/b=1 a/c=2 d/ d/e=3 f=4 g/");
        layer(check, "put g", "\2\1g\0\0", "a/ a/b=1 a/c=2 d/ d/e=3 f=4 g=");
        layer(check, "put a/g xyz", "\2\3a/g\3\0xyz", "a/ a/b=1 a/c=2 a/g=xyz d/ d/e=3 f=4");
        layer(check, "put f 5", "\2\1f\1\0005", "a/ a/b=1 a/c=2 d/ d/e=3 f=5");
        layer(check, "add f 5", "\2\1f\2\00045", "a/ a/b=1 a/c=2 d/ d/e=3 f=45");
        layer(check, "mkdir a/g;mkdir a/g/h;put a/g/h/i", "\1\3a/g\0\0\1\5a/g/h\0\0\2\7a/g/h/i\0\0",
                "a/ a/b=1 a/c=2 a/g/ a/g/h/ a/g/h/i= d/ d/e=3 f=4");
    }

    private static void gone(Check check) {
        layer(check, "rm f", "\3\1f\0\0", "a/ a/b=1 a/c=2 d/ d/e=3");
        layer(check, "rm a", "\3\1a\0\0", "d/ d/e=3 f=4");
        layer(check, "rm a/c", "\3\3a/c\0\0", "a/ a/b=1 d/ d/e=3 f=4");
        layer(check, "rm d/e", "\3\3d/e\0\0", "a/ a/b=1 a/c=2 d/ f=4");
        layer(check, "rm a;rm d;rm f", "\3\1a\0\0\3\1d\0\0\3\1f\0\0", "");
        layer(check, "move d/e a/a", "\2\3a/a\1\0003\3\3d/e\0\0", "a/ a/a=3 a/b=1 a/c=2 d/ f=4");
    }

    private static void emptied(Check check) {
        layer(check, "rm a/b;rm a/c", "\4\1a\0\0", "a/ d/ d/e=3 f=4");
        layer(check, "rm a/b;rm a/c;put a/g", "\4\1a\0\0\2\3a/g\0\0", "a/ a/g= d/ d/e=3 f=4");
        layer(check, "rm a/b;rm a/c;put a/c", "\3\3a/b\0\0\2\3a/c\0\0", "a/ a/c= d/ d/e=3 f=4");
        layer(check, "rm a/b;rm a/c;mkdir a/c", "\3\3a/b\0\0\1\3a/c\0\0", "a/ a/c/ d/ d/e=3 f=4");
        layer(check, "rm d/e;put d/g", "\3\3d/e\0\0\2\3d/g\0\0", "a/ a/b=1 a/c=2 d/ d/g= f=4");
        layer(check, "rm a;mkdir a", "\4\1a\0\0", "a/ d/ d/e=3 f=4");
        Yards x = new Yards();
        Check.build(x, 0, 0, "FROM empty\nRUN mkdir a;mkdir a/b;put a/b/c;put a/b/d;put a/e\nRUN rm a/b;rm a/e;mkdir a/a\n"
                + "RUN mkdir a/b;put a/b/c;put a/b/d\nRUN rm a/b/c;rm a/b/d");
        String second = new String(Check.blob(x, 0, x.layer(0, 0, 1)), StandardCharsets.ISO_8859_1);
        check.holds("one item for all below", second.equals("\4\1a\0\0\1\3a/a\0\0"));
        String last = new String(Check.blob(x, 0, x.layer(0, 0, 3)), StandardCharsets.ISO_8859_1);
        check.holds("a directory deeper down", last.equals("\4\3a/b\0\0"));
        check.tree(x, 0, 0, "a/ a/a/ a/b/");
    }

    private static void turned(Check check) {
        layer(check, "rm a;put a 9", "\2\1a\1\0009", "a=9 d/ d/e=3 f=4");
        layer(check, "rm f;mkdir f", "\1\1f\0\0", "a/ a/b=1 a/c=2 d/ d/e=3 f/");
        layer(check, "rm f;mkdir f;put f/a", "\1\1f\0\0\2\3f/a\0\0", "a/ a/b=1 a/c=2 d/ d/e=3 f/ f/a=");
        layer(check, "rm f;move d f", "\3\1d\0\0\1\1f\0\0\2\3f/e\1\0003", "a/ a/b=1 a/c=2 f/ f/e=3");
    }

    private static void nothing(Check check) {
        String tree = "a/ a/b=1 a/c=2 d/ d/e=3 f=4";
        layer(check, "put f 4", "", tree);
        layer(check, "rm a/b;put a/b 1", "", tree);
        layer(check, "mkdir g;rm g", "", tree);
        layer(check, "rm d;mkdir d;put d/e 3", "", tree);
        layer(check, "add f", "", tree);
    }

    private static void longFile(Check check) {
        Yards x = new Yards();
        Check.build(x, 0, 0, "FROM empty\nRUN put a " + "z".repeat(100) + ";join a a;join a a;join a a");
        byte[] layer = Check.blob(x, 0, x.layer(0, 0, 0));
        check.due("the lower byte of 800", layer[3] & 255, 800 % 256);
        check.due("the higher byte of 800", layer[4] & 255, 800 / 256);
        check.due("the layer's length", layer.length, 805);
        check.due("the file's length", x.entry(0, 0, 0, 0, 3), 800);
    }

    private static void order(Check check) {
        Yards x = new Yards();
        Check.build(x, 0, 0, "FROM empty\nRUN mkdir a;put ab;put a0;put a/b;put 9;put b;mkdir a/a;put a/a/z;put a/a0");
        check.tree(x, 0, 0, "9= a/ a/a/ a/a/z= a/a0= a/b= a0= ab= b=");
        String layer = new String(Check.blob(x, 0, x.layer(0, 0, 0)), StandardCharsets.ISO_8859_1);
        check.holds("items in the order of their paths", layer.equals("\2\0019\0\0\1\1a\0\0\1\3a/a\0\0\2\5a/a/z\0\0"
                + "\2\4a/a0\0\0\2\3a/b\0\0\2\2a0\0\0\2\2ab\0\0\2\1b\0\0"));
    }

    private static void digests(Check check) {
        Yards x = new Yards();
        Check.build(x, 0, 0, "FROM empty");
        check.due("an image of nothing", x.tag(0, 0), Model.digest("M\0\0"));
        check.due("how many bytes it has", x.blob(0, x.tag(0, 0)), 3);
        Check.build(x, 0, 1, "FROM empty\nENV v " + (char) 126 + "\nCOPY a\nCOPY a");
        long first = x.layer(0, 1, 0);
        long second = x.layer(0, 1, 1);
        check.due("the second layer is empty", second, Model.digest(""));
        check.due("the empty layer is a blob", x.blob(0, second), 0);
        check.due("the image's digest", x.tag(0, 1), Model.digest("M\2" + Model.eight(first) + Model.eight(second)
                + "\1\1v\1~"));
    }
}
