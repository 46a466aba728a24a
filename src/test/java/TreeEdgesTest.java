import java.nio.charset.StandardCharsets;

/** Terms 1 at its edges: paths, names, forty entries, a thousand bytes, and the items of a layer. */
public final class TreeEdgesTest {
    private static final String START = "FROM empty\n";

    /** Each place of a line where a path stands. */
    private static final String[] PLACES = {"COPY %s x", "COPY %s", "RUN mkdir %s", "RUN rm %s", "RUN put %s x", "RUN put %s",
        "RUN add %s x", "RUN move %s z", "RUN move z %s", "RUN join %s z", "RUN join z %s"};

    public static void main(String[] args) {
        Check check = new Check();
        fourNames(check);
        noPaths(check);
        eightSigns(check);
        signsOfNames(check);
        fortyEntries(check);
        fortyEntriesBehindEachCommand(check);
        thousandBytes(check);
        thousandBytesTogether(check);
        thousandBytesBehindEachCommand(check);
        order(check);
        twoOrMoreBelow(check);
        directlyBelow(check);
        noneIsInB(check);
        homeInB(check);
        sameBytes(check);
        lengthOfAFile(check);
        greatestLayer(check);
        manyCommands(check);
        notDoneItems(check);
        notDoneItemsOfAFile(check);
        eightyEntries(check);
        tooGreatEntries(check);
        tooGreatBytes(check);
        check.end();
    }

    private static void placed(Check check, String start, String path, int fault) {
        for (String place : PLACES) {
            check.fault(start + String.format(place, path), fault, fault == 0 ? -1 : start.split("\n").length);
        }
    }

    /** "A PATH is one to four NAMES with / between them" */
    private static void fourNames(Check check) {
        placed(check, START, "a/b/c/d/e", 1);
        placed(check, START, "a/b/c/d/", 1);
        placed(check, START, "a/b/c/d/e/f", 1);
        String[] made = {"a", "a/b", "a/b/c"};
        StringBuilder home = new StringBuilder(START + "RUN put z;mkdir y");
        for (String path : made) {
            home.append(";mkdir ").append(path);
        }
        home.append("\n");
        for (String path : new String[] {"x", "a/x", "a/b/x", "a/b/c/x"}) {
            check.fault(home + "COPY " + path, 0, -1);
            check.fault(home + "RUN put " + path + " 1;add " + path + " 2;join " + path + " z;join z " + path + ";rm " + path, 0, -1);
            check.fault(home + "RUN mkdir " + path + ";move " + path + " w;move w " + path, 0, -1);
        }
        Yards x = new Yards();
        Check.build(x, 0, 0, home + "COPY a/b/c/x 1");
        check.tree(x, 0, 0, "a/ a/b/ a/b/c/ a/b/c/x=1 y/ z=");
    }

    /** None of these has one name or more, with / between them. */
    private static void noPaths(Check check) {
        String[] wrong = {"", "/", "/a", "a/", "a//b", "//", "a/b/", "/a/b"};
        for (String path : wrong) {
            placed(check, START, path, 1);
        }
        placed(check, START + "RUN mkdir a\n", "a/", 1);
    }

    /** "a name is one to eight small letters or digits" */
    private static void eightSigns(Check check) {
        String eight = "abcdefgh";
        String home = START + "RUN put z;mkdir y;mkdir " + eight + ";mkdir " + eight + "/1;mkdir " + eight + "/1/2\n";
        String[] deep = {eight + "/" + eight, eight + "/1/" + eight, eight + "/1/2/" + eight};
        for (String path : deep) {
            check.fault(home + "COPY " + path, 0, -1);
            placed(check, home, path + "i", 1);
        }
        placed(check, home, "abcdefghi", 1);
        placed(check, home, "abcdefghi/a", 1);
        placed(check, home, "a/123456789", 1);
        placed(check, home, "a/b/c/123456789", 1);
        Yards x = new Yards();
        String longest = "12345678/abcdefgh/stuvwxyz/90909090";
        Check.build(x, 0, 0, START + "RUN mkdir 12345678;mkdir 12345678/abcdefgh;mkdir 12345678/abcdefgh/stuvwxyz\nCOPY "
                + longest + " x");
        for (int k = 0; k < 35; k++) {
            check.due("sign " + k + " of the longest path", x.entry(0, 0, 3, k, 0), longest.charAt(k));
        }
        check.due("none behind it", x.entry(0, 0, 3, 35, 0), -1);
        check.due("its layer", x.blob(0, x.layer(0, 0, 1)), 2 + 35 + 2 + 1);
        check.due("the path's length in it", x.byteOf(0, x.layer(0, 0, 1), 1), 35);
        placed(check, START, longest + "1", 1);
    }

    /** "small letters or digits", of all the signs that a build file may have. */
    private static void signsOfNames(Check check) {
        for (char sign = 32; sign < 127; sign++) {
            boolean isNameSign = sign >= 'a' && sign <= 'z' || sign >= '0' && sign <= '9';
            check.fault(START + "COPY " + sign + " x", isNameSign ? 0 : 1, isNameSign ? -1 : 1);
            if (sign != ' ' && sign != '$' && sign != '/') {
                check.fault(START + "COPY a" + sign + "b x", isNameSign ? 0 : 1, isNameSign ? -1 : 1);
            }
            if (sign != ' ') {
                check.fault(START + "RUN mkdir " + sign, isNameSign ? 0 : 1, isNameSign ? -1 : 1);
            }
        }
    }

    /** Forty entries, less some, in two lines behind START: directory d, and files. */
    private static String entries(int less) {
        StringBuilder out = new StringBuilder(START + "RUN mkdir d");
        for (int i = 1; i < 40 - less; i++) {
            String name = (i < 20 ? "" : "d/") + (char) ('e' + i % 20);
            out.append(i == 20 ? "\nRUN put " : ";put ").append(name);
        }
        return out.append('\n').toString();
    }

    /** "A TREE has at most 40 ENTRIES" */
    private static void fortyEntries(Check check) {
        String[] more = {"COPY z", "RUN put z", "RUN mkdir z", "RUN put d/z 1", "COPY d/z 1", "RUN mkdir d/z"};
        for (String line : more) {
            Yards x = new Yards();
            check.build(x, entries(1) + line, 0, -1, 3, 0);
            check.due("forty entries", x.image(0, 0, 2), 40);
            Yards y = new Yards();
            check.build(y, entries(0) + line, 4, 3, 2, 0);
            check.due("no tag tells it", y.tag(0, 0), 0);
        }
        String[] asMany = {"COPY f 1", "RUN put d/f 1", "RUN move f z", "RUN move d z", "RUN add f 1", "RUN join f g",
            "RUN rm f;mkdir f", "RUN rm f;put z", "RUN move f d/z"};
        for (String line : asMany) {
            Yards x = new Yards();
            check.build(x, entries(0) + line, 0, -1, 3, 0);
            check.due("forty entries", x.image(0, 0, 2), 40);
        }
    }

    /** "too great: ... a tree or its files (behind any command)" */
    private static void fortyEntriesBehindEachCommand(Check check) {
        check.fault(entries(0) + "RUN mkdir z;rm z", 4, 3);
        check.fault(entries(0) + "RUN put z;rm f", 4, 3);
        check.fault(entries(0) + "RUN rm f;put z;put f;rm z", 4, 3);
        check.fault(entries(0) + "RUN rm f;put z;rm z;put f", 0, -1);
        check.fault(entries(0) + "RUN rm d;mkdir d;put z", 0, -1);
        check.fault(entries(1) + "RUN put z;put y", 4, 3);
    }

    /** A line that makes a file of a number of bytes, eight at a time. */
    private static String bytes(String path, int count) {
        return "RUN put " + path + " " + "x".repeat(count / 8) + (";join " + path + " " + path).repeat(3)
                + (count % 8 == 0 ? "" : ";add " + path + " " + "y".repeat(count % 8)) + "\n";
    }

    /** "The files have at most 1000 bytes together." */
    private static void thousandBytes(Check check) {
        String[] lines = {"RUN add a z", "RUN put b z", "COPY b z", "RUN put b z;join a b", "RUN put b;add b z"};
        for (String line : lines) {
            check.fault(START + bytes("a", line.contains("join") ? 998 : 999) + line, 0, -1);
            check.fault(START + bytes("a", line.contains("join") ? 999 : 1000) + line, 4, 2);
        }
        Yards x = new Yards();
        Check.build(x, 0, 0, START + bytes("a", 1000));
        check.due("a thousand bytes", x.entry(0, 0, 0, 0, 3), 1000);
        check.due("the last one", x.entry(0, 0, 0, 999, 1), 'x');
        check.due("none behind it", x.entry(0, 0, 0, 1000, 1), -1);
        check.fault(START + bytes("a", 1000) + "RUN join a a", 4, 2);
        check.fault(START + bytes("a", 500) + "RUN join a a", 0, -1);
        check.fault(START + bytes("a", 501) + "RUN join a a", 4, 2);
        check.fault(START + bytes("a", 1000) + "RUN add a;put b;mkdir c;put b;join a b;move a d", 0, -1);
        check.fault(START + bytes("a", 1000) + "COPY a " + "z".repeat(190), 0, -1);
    }

    private static void thousandBytesTogether(Check check) {
        check.fault(START + bytes("a", 400) + bytes("b", 400) + "COPY c " + "z".repeat(180) + "\nCOPY d " + "z".repeat(20), 0, -1);
        check.fault(START + bytes("a", 400) + bytes("b", 400) + "COPY c " + "z".repeat(180) + "\nCOPY d " + "z".repeat(21), 4, 4);
        check.fault(START + bytes("a", 400) + bytes("b", 200) + "RUN join b a", 0, -1);
        check.fault(START + bytes("a", 400) + bytes("b", 201) + "RUN join b a", 4, 3);
        check.fault(START + bytes("a", 400) + bytes("b", 201) + "RUN join a b", 0, -1);
        check.fault(START + bytes("a", 600) + bytes("b", 201) + "RUN join a b", 4, 3);
    }

    private static void thousandBytesBehindEachCommand(Check check) {
        check.fault(START + bytes("a", 1000) + "RUN put b z;rm b", 4, 2);
        check.fault(START + bytes("a", 1000) + "RUN put b z;rm a", 4, 2);
        check.fault(START + bytes("a", 1000) + "RUN add a z;put a", 4, 2);
        check.fault(START + bytes("a", 1000) + "RUN rm a;put b z", 0, -1);
        check.fault(START + bytes("a", 1000) + "RUN put a;put b z", 0, -1);
    }

    /** "one that ends goes first; / is before digits, these before letters" */
    private static void order(Check check) {
        Yards x = new Yards();
        Check.build(x, 0, 0, START + "RUN put z;put a9;put aa;put a0;mkdir a;put a/z;put a/0;put 9z;put 9;put 0;put az;put a00");
        check.tree(x, 0, 0, "0= 9= 9z= a/ a/0= a/z= a0= a00= a9= aa= az= z=");
    }

    /** The bytes of the layer of commands on the tree that a line makes. */
    private static void layer(Check check, String line, String commands, String due) {
        Yards x = new Yards();
        check.due("build of " + commands, Check.build(x, 0, 0, START + "RUN " + line + "\nRUN " + commands), 0);
        String got = new String(Check.blob(x, 0, x.layer(0, 0, 1)), StandardCharsets.ISO_8859_1);
        check.holds("the layer of " + commands + " on " + line, got.equals(due));
        Yards y = new Yards();
        Check.build(y, 0, 0, START + "RUN " + line + ";" + commands);
        check.tree(x, 0, 0, Check.tree(y, 0, 0));
    }

    /** "a directory in both that has two or more entries directly below it in A" */
    private static void twoOrMoreBelow(Check check) {
        layer(check, "mkdir a", "rm a;mkdir a", "");
        layer(check, "mkdir a;put a/b", "rm a/b", "\3\3a/b\0\0");
        layer(check, "mkdir a;put a/b;put a/c", "rm a/b;rm a/c", "\4\1a\0\0");
        layer(check, "mkdir a;put a/b;put a/c;mkdir a/d", "rm a;mkdir a", "\4\1a\0\0");
        layer(check, "put a;put b", "rm a;rm b", "\3\1a\0\0\3\1b\0\0");
        layer(check, "mkdir a;mkdir a/b;put a/b/c;put a/b/d;put a/e", "rm a/b/c;rm a/b/d", "\4\3a/b\0\0");
    }

    /** "directly below it" */
    private static void directlyBelow(Check check) {
        layer(check, "mkdir a;mkdir a/b;put a/b/c;put a/b/d", "rm a/b", "\3\3a/b\0\0");
        layer(check, "mkdir a;mkdir a/b;put a/b/c", "rm a/b", "\3\3a/b\0\0");
        layer(check, "mkdir a;mkdir a/b;put a/b/c;put a/d", "rm a/b;rm a/d", "\4\1a\0\0");
        layer(check, "mkdir a;mkdir a/b;put a/b/c;put a/b/d;put a/e", "rm a/b/c;rm a/b/d;rm a/e",
                "\4\3a/b\0\0\3\3a/e\0\0");
        layer(check, "mkdir a;put a/b;put ab;put a0", "rm a/b;rm ab;rm a0", "\3\3a/b\0\0\3\2a0\0\0\3\2ab\0\0");
    }

    /** "of which none is in B" */
    private static void noneIsInB(Check check) {
        layer(check, "mkdir a;put a/b;put a/c;put a/d", "rm a/b;rm a/c", "\3\3a/b\0\0\3\3a/c\0\0");
        layer(check, "mkdir a;put a/b;put a/c", "rm a/b;rm a/c;mkdir a/b", "\1\3a/b\0\0\3\3a/c\0\0");
        layer(check, "mkdir a;put a/b;put a/c", "rm a/b;rm a/c;put a/b 1", "\2\3a/b\1\0001\3\3a/c\0\0");
        layer(check, "mkdir a;mkdir a/b;put a/b/x;put a/c", "rm a/b;rm a/c;put a/b", "\2\3a/b\0\0\3\3a/c\0\0");
        layer(check, "mkdir a;put a/b;put a/c", "rm a/b;rm a/c;put a/bb;put a/a", "\4\1a\0\0\2\3a/a\0\0\2\4a/bb\0\0");
    }

    /** "a path in A alone whose path one name shorter (if it has more than one) is a directory in B and not EMPTIED" */
    private static void homeInB(Check check) {
        layer(check, "mkdir a;put a/b", "rm a", "\3\1a\0\0");
        layer(check, "mkdir a;put a/b", "rm a;put a 1", "\2\1a\1\0001");
        layer(check, "mkdir a;mkdir a/b;put a/b/c;put a/b/d", "rm a;mkdir a", "\3\3a/b\0\0");
        layer(check, "mkdir a;mkdir a/b;put a/b/c;put a/d", "rm a;mkdir a", "\4\1a\0\0");
        layer(check, "mkdir a;mkdir a/b;put a/b/c", "rm a/b;put a/b", "\2\3a/b\0\0");
        layer(check, "put a 1", "rm a;mkdir a;put a/b", "\1\1a\0\0\2\3a/b\0\0");
    }

    /** "a file in B, and in A not a file with the same bytes" */
    private static void sameBytes(Check check) {
        layer(check, "put a xy", "put a xy", "");
        layer(check, "put a xy", "put a xz", "\2\1a\2\0xz");
        layer(check, "put a xy", "put a x", "\2\1a\1\0x");
        layer(check, "put a xy", "put a xyz", "\2\1a\3\0xyz");
        layer(check, "put a xy", "put a", "\2\1a\0\0");
        layer(check, "put a", "put a", "");
        layer(check, "mkdir a", "rm a;put a", "\2\1a\0\0");
    }

    /** "two bytes (the lower first) for how many bytes a file has" */
    private static void lengthOfAFile(Check check) {
        int[] counts = {0, 1, 255, 256, 511, 512, 999, 1000};
        for (int count : counts) {
            Yards x = new Yards();
            Check.build(x, 0, 0, START + bytes("a", count));
            long layer = x.layer(0, 0, 0);
            check.due("the layer of " + count, x.blob(0, layer), 5 + count);
            check.due("the lower byte of " + count, x.byteOf(0, layer, 3), count % 256);
            check.due("the higher byte of " + count, x.byteOf(0, layer, 4), count / 256);
            check.due("the bytes of " + count, x.entry(0, 0, 0, 0, 3), count);
        }
    }

    private static final String SIGNS = "0123456789abcdefghijklmnopqrstuvwxyz";

    /** The longest paths, as many that go as that come, and a thousand bytes: all stand in one layer. */
    private static void greatestLayer(Check check) {
        Yards x = new Yards();
        StringBuilder text = new StringBuilder(START + "ENV f a/b/c/ffffff\nRUN mkdir a;mkdir a/b;mkdir a/b/c");
        for (int i = 0; i < 36; i++) {
            text.append(i % 9 == 0 ? "\nRUN " : ";").append("put $f0").append(SIGNS.charAt(i));
        }
        check.due("36 files", Check.build(x, 0, 0, text.toString()), 0);
        check.due("one of a thousand bytes", Check.build(x, 0, 0, "FROM 0\n" + bytes("x", 1000) + "RUN rm $f01;move x $f01;"
                + "move a/b/c a/b/cccccccc;move a/b a/bbbbbbbb;move a aaaaaaaa"), 0);
        String home = "aaaaaaaa/bbbbbbbb/";
        String old = home + "cccccccc";
        String now = home + "dddddddd";
        check.due("all but one are moved", Check.build(x, 0, 0, "FROM 0\nRUN move " + old + " " + now + ";mkdir " + old + ";move "
                + now + "/ffffff00 " + old + "/ffffff00"), 0);
        check.due("entries", x.image(0, 0, 2), 40);
        StringBuilder due = new StringBuilder();
        for (int i = 1; i < 36; i++) {
            due.append("\3\43").append(old).append("/ffffff0").append(SIGNS.charAt(i)).append("\0\0");
        }
        due.append("\1\32").append(now).append("\0\0");
        for (int i = 1; i < 36; i++) {
            due.append("\2\43").append(now).append("/ffffff0").append(SIGNS.charAt(i));
            due.append(i == 1 ? "\350\3" + "x".repeat(1000) : "\0\0");
        }
        long layer = x.layer(0, 0, x.image(0, 0, 0) - 1);
        check.due("its bytes", x.blob(0, layer), 70 * 39 + 30 + 1000);
        check.due("its digest", layer, Model.digest(due.toString()));
        transfer(check, x, 0, 0);
        check.due("it came to the other yard", x.blob(1, layer), due.length());
        check.due("the last byte of the file there", x.entry(1, 0, 5, 999, 1), 'x');
        check.due("its bytes there", x.entry(1, 0, 5, 0, 3), 1000);
        check.due("entries there", x.image(1, 0, 2), 40);
    }

    /** As many commands in a line as there can be, with a file of nearly a thousand bytes. */
    private static void manyCommands(Check check) {
        Yards x = new Yards();
        Check.build(x, 0, 0, START + bytes("a", 1000));
        check.due("32 commands that add nothing", Check.build(x, 0, 1, "FROM 0\nRUN add a" + ";add a".repeat(31)), 0);
        check.due("the file", x.entry(0, 1, 0, 0, 3), 1000);
        check.due("the layer has no items", x.blob(0, x.layer(0, 1, 1)), 0);
        check.due("28 commands", Check.build(x, 0, 1, "FROM 0\nRUN put b;add b 1;rm b" + ";put b".repeat(25)), 4);
        check.due("28 commands", Check.build(x, 0, 1, "FROM 0\nRUN mkdir b" + ";rm b;mkdir b".repeat(12)), 0);
        Check.build(x, 0, 2, START + bytes("a", 976));
        check.due("24 bytes more, one by one", Check.build(x, 0, 2, "FROM 2\nRUN add a z" + ";add a z".repeat(23)), 0);
        check.due("the file", x.entry(0, 2, 0, 0, 3), 1000);
        check.due("a byte of the old ones", x.entry(0, 2, 0, 975, 1), 'x');
        check.due("a byte of the new ones", x.entry(0, 2, 0, 976, 1), 'z');
        check.due("the last byte", x.entry(0, 2, 0, 999, 1), 'z');
        Check.build(x, 0, 3, START + bytes("a", 977));
        check.due("24 bytes more than there may be", Check.build(x, 0, 3, "FROM 3\nRUN add a z" + ";add a z".repeat(23)), 4);
        Check.build(x, 0, 4, START + bytes("a", 500) + "RUN join a a");
        check.due("joins of nothing", Check.build(x, 0, 4, "FROM 4\nRUN put b" + ";join a b".repeat(20)), 0);
        check.due("the file", x.entry(0, 4, 0, 0, 3), 1000);
    }

    /** Sends an image from a yard to the other one, to the same tag. */
    static void transfer(Check check, Yards x, int yard, int tag) {
        int number = x.send(yard, tag, tag);
        for (int i = 0; i < 30 && x.transfer(number, 0) != 0; i++) {
            x.deliver(number);
        }
        check.due("it came to the other yard", x.transfer(number, 3), 1);
    }

    /**
     * "An item that can't be done is left out": in the first yard the second layer has removed d, in the other one,
     * where other bytes have its digest, it hasn't.
     */
    private static void notDoneItems(Check check) {
        String[][] cases = {
            {"rm d/e", "t="},
            {"rm d/e;rm d/f", "t="},
            {"put d/g 1", "t="},
            {"mkdir d/g", "t="},
            {"put d/e 1;put g 2", "g=2 t="},
            {"mkdir d/g;put d/g/h 1;mkdir i", "i/ t="},
            {"rm d;mkdir d", "t="},
            {"rm d", "t="},
            {"rm d;put d 1", "d=1 t="},
        };
        for (String[] one : cases) {
            Yards x = new Yards();
            check.due("build here", Check.build(x, 0, 1, START + "RUN mkdir d;put d/e;put d/f\nRUN rm d;put t "
                    + CollisionTest.FIRST), 0);
            check.due("build there", Check.build(x, 1, 1, START + "RUN mkdir d;put d/e;put d/f\nCOPY t "
                    + CollisionTest.SECOND + "\nRUN " + one[0]), 0);
            check.due("the second layers have one digest", x.layer(0, 1, 1), x.layer(1, 1, 1));
            transfer(check, x, 1, 1);
            check.tree(x, 0, 1, one[1].replace("t=", "t=" + CollisionTest.FIRST));
        }
    }

    /** "EMPTIED of a file, DIRECTORY or FILE whose path one name shorter is no directory": here d is a file. */
    private static void notDoneItemsOfAFile(Check check) {
        String[][] cases = {
            {"rm d/e;rm d/f", "d= t="},
            {"rm d/e", "d= t="},
            {"put d/g 1", "d= t="},
            {"mkdir d/g", "d= t="},
            {"rm d", "t="},
            {"rm d;mkdir d", "d= t="},
            {"rm d;put d 1", "d=1 t="},
            {"rm d/e;rm d/f;put d/g", "d= t="},
            {"move d g", "g/ g/e= g/f= t="},
        };
        for (String[] one : cases) {
            Yards x = new Yards();
            check.due("build here", Check.build(x, 0, 1, START + "RUN mkdir d;put d/e;put d/f\nRUN rm d;put d;put t "
                    + CollisionTest.FILED), 0);
            check.due("build there", Check.build(x, 1, 1, START + "RUN mkdir d;put d/e;put d/f\nCOPY t "
                    + CollisionTest.UNFILED + "\nRUN " + one[0]), 0);
            check.due("the second layers have one digest", x.layer(0, 1, 1), x.layer(1, 1, 1));
            transfer(check, x, 1, 1);
            check.tree(x, 0, 1, one[1].replace("t=", "t=" + CollisionTest.FILED));
        }
    }

    /** A line of some files in d, each of a letter and a sign. */
    private static String many(String start, char name, int count) {
        StringBuilder out = new StringBuilder("RUN ").append(start);
        for (int i = 0; i < count; i++) {
            out.append(i == 20 ? "\nRUN put d/" : ";put d/").append(name).append((char) ('a' + i));
        }
        return out.append('\n').toString();
    }

    private static final String AWAY = "RUN rm d;put t " + CollisionTest.FIRST + "\n";

    /** An image whose tree in the other yard has more and more entries in d, for there they never go. */
    private static Yards grown(Check check, int third, String lines) {
        Yards x = new Yards();
        check.due("one", Check.build(x, 0, 1, START + many("mkdir d", 'a', 26) + AWAY), 0);
        check.due("two", Check.build(x, 0, 1, "FROM 1\n" + many("rm t;mkdir d", 'b', 26) + AWAY), 0);
        check.due("three", Check.build(x, 0, 1, "FROM 1\n" + many("mkdir d", 'c', third) + lines), 0);
        check.due("the layer there", Check.build(x, 1, 2, START + "COPY t " + CollisionTest.SECOND), 0);
        transfer(check, x, 0, 1);
        return x;
    }

    /** "or that would be an 81st entry": d, t and 52 files are there, and then come others. */
    private static void eightyEntries(Check check) {
        check.due("79 entries", grown(check, 25, "").image(1, 1, 2), 79);
        Yards full = grown(check, 25, "RUN put d/da\n");
        check.due("an 80th file", full.image(1, 1, 2), 80);
        check.due("it is there", full.entry(1, 1, 78, 2, 0), 'd');
        check.due("80 entries, one a directory", grown(check, 25, "RUN mkdir d/da\n").image(1, 1, 2), 80);
        String last = "d/cz=";
        Yards file = grown(check, 26, "RUN put d/da\n");
        check.due("no 81st file", file.image(1, 1, 2), 80);
        check.holds("the last of d is another one", Check.tree(file, 1, 1).endsWith(last + " t=" + CollisionTest.SECOND));
        Yards directory = grown(check, 26, "RUN mkdir d/da;put d/da/a\n");
        check.due("no 81st directory", directory.image(1, 1, 2), 80);
        check.holds("nor what is below it", Check.tree(directory, 1, 1).endsWith(last + " t=" + CollisionTest.SECOND));
        Yards there = grown(check, 26, "RUN put d/cz 1;rm d/cy;mkdir d/cy\n");
        check.due("what is there is no 81st entry", there.image(1, 1, 2), 80);
        check.holds("it is done", Check.tree(there, 1, 1).endsWith("d/cy/ d/cz=1 t=" + CollisionTest.SECOND));
        Yards freed = grown(check, 26, "RUN rm d/cy\nRUN put d/da\n");
        check.due("one that goes leaves room", freed.image(1, 1, 2), 80);
        check.holds("for another one", Check.tree(freed, 1, 1).endsWith("d/cz= d/da= t=" + CollisionTest.SECOND));
    }

    /** "Otherwise the step is worked out on the image's tree (fault 4 if that is too great)", by its entries. */
    private static void tooGreatEntries(Check check) {
        for (int more = 11; more <= 13; more++) {
            Yards x = new Yards();
            Check.build(x, 0, 1, START + many("mkdir d", 'a', 26) + AWAY + many("mkdir d", 'b', more));
            Check.build(x, 1, 2, START + "COPY t " + CollisionTest.SECOND);
            transfer(check, x, 0, 1);
            int entries = 28 + more;
            check.due("entries there", x.image(1, 1, 2), entries);
            String[] lines = {"RUN rm d", "COPY t", "RUN rm nothing", "RUN wrong"};
            int[] faults = {0, 0, 3, 1};
            for (int i = 0; i < lines.length; i++) {
                check.due("with " + entries + " entries " + lines[i], Check.build(x, 1, 3, "FROM 1\n" + lines[i]),
                        entries > 40 ? 4 : faults[i]);
                check.due("its line", x.built(0), entries > 40 || faults[i] != 0 ? 1 : -1);
            }
            check.due("no step needs no tree", Check.build(x, 1, 3, "FROM 1\nENV a b"), 0);
        }
    }

    /** The same by the files' bytes. */
    private static void tooGreatBytes(Check check) {
        for (int more = 599; more <= 601; more++) {
            Yards x = new Yards();
            String home = START + "RUN mkdir d\n";
            Check.build(x, 0, 1, home + bytes("d/a", 389) + AWAY + "RUN mkdir d\n" + bytes("d/b", more));
            Check.build(x, 1, 2, START + "COPY t " + CollisionTest.SECOND);
            transfer(check, x, 0, 1);
            int due = 389 + 11 + more > 1000 ? 4 : 0;
            check.due("its entries", x.image(1, 1, 2), 4);
            check.due("with " + more, Check.build(x, 1, 3, "FROM 1\nRUN rm d"), due);
            check.due("its steps", x.built(1), due == 0 ? 1 : 0);
        }
    }
}
