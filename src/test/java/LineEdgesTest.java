/** Terms 3 at its edges: signs, lines, words, settings, and what the commands can and can't do. */
public final class LineEdgesTest {
    private static final String START = "FROM empty\n";
    /** A tree for commands: files f (with bytes) and g (without), directories d (with d/e and d/h/i) and k. */
    private static final String TREE = START + "RUN put f 12;put g;mkdir d;put d/e 3;mkdir d/h;put d/h/i 4;mkdir k\n";

    public static void main(String[] args) {
        Check check = new Check();
        sixHundredSigns(check);
        signs(check);
        emptyLines(check);
        from(check);
        fromTag(check);
        fromSettings(check);
        env(check);
        envSigns(check);
        words(check);
        oneBlank(check);
        blanksOfCommands(check);
        commandsWithoutSigns(check);
        texts(check);
        eightLetters(check);
        putIn(check);
        twoHundredSigns(check);
        twoHundredSignsThen(check);
        makesDirectories(check);
        makesFiles(check);
        adds(check);
        removes(check);
        moves(check);
        movedNames(check);
        joins(check);
        check.end();
    }

    private static void tree(Check check, String text, String due) {
        Yards x = new Yards();
        check.due("build of " + text, Check.build(x, 0, 0, text), 0);
        check.tree(x, 0, 0, due);
    }

    /** "A text of at most 600 signs": the 600th is one of the file's. */
    private static void sixHundredSigns(Check check) {
        Yards x = new Yards();
        Check.write(x, START + "\n".repeat(580) + "COPY ab c");
        check.due("signs", x.put(0), 600);
        check.due("build", x.build(0, 0), 0);
        check.tree(x, 0, 0, "ab=c");
        check.refuses("a 601st", Check.UNSUPPORTED, () -> x.put('d'));
        x.end(599);
        check.due("without the last one", x.build(0, 0), 0);
        check.tree(x, 0, 0, "ab=");
        check.due("another 600th", x.put('d' << 16), 600);
        check.due("build", x.build(0, 0), 0);
        check.tree(x, 0, 0, "ab=d");
        Yards y = new Yards();
        Check.write(y, START + "\n".repeat(588) + "x");
        check.due("a fault in the 600th sign", y.build(0, 0), 1);
        check.due("at line 589", y.built(0), 589);
        y.end(599);
        check.due("none without it", y.build(0, 0), 0);
    }

    /** "signs, 32 .. 126 and line ends (10)": all others are refused, 0 is left out. */
    private static void signs(Check check) {
        for (int sign = 0; sign < 256; sign++) {
            Yards x = new Yards();
            Check.write(x, START + "COPY a ");
            int one = sign;
            if (sign == 10 || sign >= 32 && sign <= 126) {
                check.due("put of " + sign, x.put(sign), 19);
                check.due("put of " + sign + " as the last of four", x.put(sign << 24), 20);
                if (sign != 10 && sign != '$') {
                    check.due("build", x.build(0, 0), 0);
                    check.due("the sign is a byte of the file", x.entry(0, 0, 0, 1, 1), sign);
                }
            } else if (sign == 0) {
                check.due("put of 0", x.put(0), 18);
                check.due("put of 0 between others", x.put('b' << 24 | 'c' << 8), 20);
                check.due("build", x.build(0, 0), 0);
                check.tree(x, 0, 0, "a=cb");
            } else {
                check.refuses("put of " + sign, Check.ARGUMENT, () -> x.put(one));
                check.refuses("put of " + sign + " as the last of four", Check.ARGUMENT, () -> x.put(one << 24 | 'a'));
                check.due("none is there", x.put(0), 18);
            }
        }
    }

    /** "those of no signs are passed over", "from 0 on, empty ones counted"; a blank is a sign. */
    private static void emptyLines(Check check) {
        tree(check, "\n\nFROM empty\n\n\nCOPY a 1\n\nCOPY b 2\n\n\n", "a=1 b=2");
        tree(check, "FROM empty\nCOPY a 1", "a=1");
        check.fault("FROM empty\n \nCOPY a 1", 1, 1);
        check.fault(" \nFROM empty", 1, 0);
        check.fault("\n\nFROM empty\n\nx", 1, 4);
        check.fault("x\n\n", 1, 0);
        check.fault("", 1, 0);
        check.fault("\n", 1, 0);
        check.fault("\n\n\n\n", 1, 0);
        check.fault(" ", 1, 0);
        check.fault("\n\n ", 1, 2);
        check.fault("FROM empty\n\n\n  ", 1, 3);
    }

    /** "The first other one is FROM empty, or FROM and a tag's digit; others are (with one blank between words) ..." */
    private static void from(Check check) {
        check.fault("FROM empty", 0, -1);
        String[] wrong = {"FROM", "FROM ", "FROM  ", "FROMempty", "FROM  empty", " FROM empty", "FROM empty ", "FROM empt",
            "FROM emptyy", "FROM EMPTY", "From empty", "FROM\tempty".replace('\t', '-'), "FROM -", "FROM a", "FROM $a",
            "FROM empty empty", "FRO", "F", "COPY a 1", "ENV a 1", "RUN put a", "ENV", "COPY", "RUN"};
        for (String line : wrong) {
            check.fault(line, 1, 0);
            check.fault(line + "\nFROM empty", 1, 0);
        }
        check.fault(START + "FROM empty", 1, 1);
        check.fault(START + "COPY a 1\nFROM 0", 1, 2);
    }

    /** "FROM and a tag's digit", "2 FROM a tag without an image here" */
    private static void fromTag(Check check) {
        Yards x = new Yards();
        for (char digit = 32; digit < 127; digit++) {
            check.due("FROM " + digit, Check.build(x, 0, 0, "FROM " + digit), digit >= '0' && digit <= '7' ? 2 : 1);
            check.due("its line", x.built(0), 0);
        }
        Yards y = new Yards();
        Check.build(y, 0, 7, START + "ENV v w\nCOPY a 1");
        check.due("FROM 7", Check.build(y, 0, 0, "FROM 7"), 0);
        check.due("the same image", y.tag(0, 0), y.tag(0, 7));
        check.due("FROM 7 in the other yard", Check.build(y, 1, 0, "FROM 7"), 2);
        String[] wrong = {"FROM 07", "FROM 77", "FROM 7 ", "FROM  7", "FROM7", "FROM 7x", "FROM -7"};
        for (String line : wrong) {
            check.due(line, Check.build(y, 0, 0, line), 1);
        }
        check.due("a step behind", Check.build(y, 0, 0, "FROM 7\nCOPY b $v"), 0);
        check.tree(y, 0, 0, "a=1 b=w");
        y.untag(0, 7);
        check.due("FROM 7 when it tells none", Check.build(y, 0, 0, "FROM 7"), 2);
        check.due("other faults are later", Check.build(y, 0, 0, "FROM 7\nwrong"), 2);
        check.due("FROM 0 for the tag itself", Check.build(y, 0, 0, "FROM 0\nRUN rm a"), 0);
        check.tree(y, 0, 0, "b=w");
    }

    /** "with those of the tag's image": whatever other builds have set. */
    private static void fromSettings(Check check) {
        Yards x = new Yards();
        Check.build(x, 0, 0, START + "ENV ab 1\nENV c 22");
        Check.build(x, 0, 1, START + "ENV x 3\nENV yz 4\nENV z 5\nCOPY f $ab$c");
        Check.build(x, 0, 2, START + "COPY f $ab$c$x$yz$z");
        check.tree(x, 0, 2, "f=");
        check.due("FROM 0", Check.build(x, 0, 2, "FROM 0\nCOPY f $ab.$c.$x.$yz.$z"), 0);
        check.tree(x, 0, 2, "f=1.22...");
        check.due("FROM 1", Check.build(x, 0, 2, "FROM 1\nENV a 6\nCOPY f $ab.$c.$x.$yz.$z.$a"), 0);
        check.tree(x, 0, 2, "f=..3.4.5.6");
        check.due("settings", x.image(0, 2, 1), 4);
        check.due("FROM 0 again", Check.build(x, 0, 2, "FROM 0\nENV b 7"), 0);
        String image = new String(Check.blob(x, 0, x.tag(0, 2)), java.nio.charset.StandardCharsets.ISO_8859_1);
        check.holds("its settings", image.equals("M\0\3\2ab\0011\1b\0017\1c\00222"));
    }

    /** "a setting's name is one to eight small letters, its value one to twelve signs, no blank among them" */
    private static void env(Check check) {
        String[] right = {"ENV a b", "ENV abcdefgh b", "ENV z 123456789012", "ENV abcdefgh 123456789012", "ENV a $a", "ENV a ;"};
        for (String line : right) {
            check.fault(START + line, 0, -1);
        }
        String[] wrong = {"ENV", "ENV ", "ENV  ", "ENV a", "ENV a ", "ENV  b", "ENV abcdefghi b", "ENV a 1234567890123",
            "ENV a b c", "ENV a b ", "ENV a  b", "ENV  a b", "ENV ab", "ENV a\nENV", "ENVa b", "EN a b", "ENV a 12345678901 2"};
        for (String line : wrong) {
            check.fault(START + line, 1, 1);
        }
        Yards x = new Yards();
        Check.build(x, 0, 0, START + "ENV abcdefgh 123456789012\nCOPY a $abcdefgh");
        check.tree(x, 0, 0, "a=123456789012");
    }

    private static void envSigns(Check check) {
        for (char sign = 33; sign < 127; sign++) {
            boolean isSmall = sign >= 'a' && sign <= 'z';
            check.fault(START + "ENV " + sign + " x", isSmall ? 0 : 1, isSmall ? -1 : 1);
            check.fault(START + "ENV a" + sign + " x", isSmall ? 0 : 1, isSmall ? -1 : 1);
            tree(check, START + "ENV v " + sign + "\nCOPY a $v", "a=" + sign);
        }
    }

    /** "told by their signs up to the first blank, as they stand" */
    private static void words(Check check) {
        String[] wrong = {"COPYx a", "COP a", "copy a", "Copy a", " COPY a", "COPY$v a", "$v a", "C$v a", "RUNS put a", "RU put a",
            "run put a", " RUN put a", "RUN$v put a", "$w put a", "RUN;put a", "COPY;a", "put a", "mkdir a", "env v w", "ENVS v w",
            "X", "ENV$v a b"};
        for (String line : wrong) {
            check.fault(START + "ENV v OPY\nENV w RUN\nENV x COPY\n" + line, 1, 4);
            check.fault(START + "ENV v OPY\nENV w RUN\nENV x COPY\n" + line + " " + "x".repeat(201), 1, 4);
        }
        String[] right = {"COPY a", "COPY a b", "RUN put a", "ENV v w"};
        for (String line : right) {
            check.fault(START + line, 0, -1);
        }
    }

    /** "with one blank between words" */
    private static void oneBlank(Check check) {
        String[] wrong = {"COPY  f x", "RUN mkdir  x", "RUN rm  f", "RUN put  f x", "RUN add  f x", "RUN move  f x",
            "RUN move f  x", "RUN join  f f", "RUN join f  f", "RUN mkdirx", "RUN rmf", "RUN putf x", "RUN addf x", "RUN movef x",
            "RUN joinf f", "RUN mkdir x y", "RUN rm f g", "RUN move f x y", "RUN join f f f", "RUN mkdir", "RUN rm", "RUN put",
            "RUN add", "RUN move", "RUN move f", "RUN join", "RUN join f", "RUN move f ;rm f", "COPY", "COPY "};
        for (String line : wrong) {
            check.fault(TREE + line, 1, 2);
        }
        String[] right = {"COPY f x", "RUN mkdir x", "RUN rm f", "RUN put f x", "RUN add f x", "RUN move f x", "RUN join f f"};
        for (String line : right) {
            check.fault(TREE + line, 0, -1);
        }
        String[] noWords = {"mkdi x", "mkdirs x", "r f", "rmm f", "pu f", "puts f", "ad f x", "adds f x", "mov f x", "moves f x",
            "joi f f", "joins f f", "Rm f", "RUN rm f", "copy f x", "COPY f x", "env a b"};
        for (String command : noWords) {
            check.fault(TREE + "RUN " + command, 1, 2);
        }
    }

    /** "blanks ahead of and behind a command are left out, behind its text, too" */
    private static void blanksOfCommands(Check check) {
        tree(check, START + "RUN    mkdir a   ;   put b   x  y   ;put c z   ", "a/ b=  x  y c=z");
        tree(check, START + "RUN put a ;put b  ; put c x ", "a= b= c=x");
        tree(check, START + "RUN put a x ; add a  y ;move a b ;join b b ;put c;rm c ", "b=x yx y");
        tree(check, START + "ENV v x\nRUN put a $w y $w;put b $v $w", "a= y b=x");
        check.fault(START + "RUN" + " ".repeat(190) + "rm x", 3, 1);
    }

    /** "one without signs is fault 1" */
    private static void commandsWithoutSigns(Check check) {
        String[] wrong = {"RUN", "RUN ", "RUN   ", "RUN ;", "RUN ; ", "RUN ;mkdir a", "RUN  ;mkdir a", "RUN mkdir a;",
            "RUN mkdir a; ", "RUN mkdir a;;mkdir b", "RUN mkdir a;  ;mkdir b", "RUN $v", "RUN mkdir a;$v", "RUN $v;mkdir a"};
        for (String line : wrong) {
            check.fault(START + line, 1, 1);
        }
        check.fault(START + "RUN mkdir a;mkdir b", 0, -1);
        check.fault(START + "ENV v ;\nRUN mkdir a$v", 1, 2);
        tree(check, START + "ENV v ;\nRUN mkdir a$v mkdir b", "a/ b/");
    }

    /** "A TEXT is what comes behind the blank, up to its end (with all its other blanks; perhaps empty ...)" */
    private static void texts(Check check) {
        tree(check, START + "COPY a", "a=");
        tree(check, START + "COPY a ", "a=");
        tree(check, START + "COPY a  ", "a= ");
        tree(check, START + "COPY a  x  y  ", "a= x  y  ");
        tree(check, START + "COPY a x;y", "a=x;y");
        tree(check, START + "RUN put a", "a=");
        tree(check, START + "RUN put a  x  y", "a= x  y");
        tree(check, START + "RUN put a x;add a;add a y;add a  z", "a=xy z");
        tree(check, START + "RUN put a put b", "a=put b");
        tree(check, START + "COPY a $", "a=");
        tree(check, START + "COPY a $v", "a=");
        tree(check, START + "COPY a$v", "a=");
    }

    /** "each $ and the small letters behind it (as many as there are, up to eight)" */
    private static void eightLetters(Check check) {
        String settings = START + "ENV abcdefgh 1\nENV abcdefg 2\nENV a 3\nENV i 4\n";
        tree(check, settings + "COPY a $abcdefgh.$abcdefg.$a.$abcdef.$abcdefghi.$abcdefghabcdefgh.$abcdefgi",
                "a=1.2.3..1i.1abcdefgh.");
        tree(check, settings + "COPY a $a1$aA$a $a$a/$A$1$_$a_", "a=313A3 33/A1_3_");
        tree(check, settings + "COPY a $$a$$$i$", "a=34");
        tree(check, settings + "COPY a b$abcdefghij", "a=b1ij");
        tree(check, settings + "RUN put a $abcdefghi;put b $a", "a=1i b=3");
    }

    /** "become the value of that setting, or nothing if there is none (what is put in isn't looked at again)" */
    private static void putIn(Check check) {
        tree(check, START + "ENV a $b\nENV b x\nENV d $\nCOPY a $a$b$c-$da-$d$b", "a=$bx--$x");
        tree(check, START + "ENV d $\nCOPY a $d" + "a", "a=");
        tree(check, START + "ENV d $\nENV a 1\nCOPY a $d.a$d$d", "a=$.a$$");
        tree(check, START + "ENV a x;rm\nRUN put x;put y $a y", "x=");
        tree(check, START + "ENV a put\nENV b x/y\nRUN mkdir x;$a $b 1", "x/ x/y=1");
        tree(check, START + "ENV a 1\nCOPY f $a\nENV a 2\nCOPY g $a\nRUN put h $a", "f=1 g=2 h=2");
        tree(check, START + "COPY f $a\nENV a 2", "f=");
        check.fault(START + "ENV a A\nCOPY $a x", 1, 2);
        check.fault(START + "ENV a x\nENV b $a\nCOPY $b x", 1, 3);
        check.fault(START + "ENV a b\nENV $a c", 1, 2);
    }

    /** "Such a line has at most 200 signs then." */
    private static void twoHundredSigns(Check check) {
        tree(check, START + "COPY a " + "x".repeat(193), "a=" + "x".repeat(193));
        check.fault(START + "COPY a " + "x".repeat(194), 4, 1);
        check.fault(START + "COPY a " + "x".repeat(400), 4, 1);
        tree(check, START + "RUN put a " + "x".repeat(190), "a=" + "x".repeat(190));
        check.fault(START + "RUN put a " + "x".repeat(191), 4, 1);
        check.fault(START + "RUN put a" + " ".repeat(191), 0, -1);
        check.fault(START + "RUN put a" + " ".repeat(192), 4, 1);
        check.fault(START + "COPY " + "x".repeat(195), 1, 1);
        check.fault(START + "COPY " + "x".repeat(196), 4, 1);
        check.fault(START + "RUN " + "x".repeat(196), 1, 1);
        check.fault(START + "RUN " + "x".repeat(197), 4, 1);
        check.fault(START + "RUN rm x;" + "x".repeat(191), 3, 1);
        check.fault(START + "RUN rm x;" + "x".repeat(192), 4, 1);
    }

    /** "then": with the settings put in. */
    private static void twoHundredSignsThen(Check check) {
        String settings = START + "ENV v 123456789012\nENV w 1\n";
        tree(check, settings + "COPY a " + "x".repeat(181) + "$v", "a=" + "x".repeat(181) + "123456789012");
        check.fault(settings + "COPY a " + "x".repeat(182) + "$v", 4, 3);
        check.fault(settings + "COPY a " + "x".repeat(193) + "$w", 4, 3);
        tree(check, settings + "COPY a " + "x".repeat(192) + "$w", "a=" + "x".repeat(192) + "1");
        tree(check, settings + "COPY a $w" + "X".repeat(192), "a=1" + "X".repeat(192));
        check.fault(settings + "COPY a $w" + "X".repeat(193), 4, 3);
        tree(check, settings + "COPY a " + "x".repeat(193) + "$nothing", "a=" + "x".repeat(193));
        check.fault(settings + "COPY a " + "x".repeat(194) + "$nothing", 4, 3);
        tree(check, settings + "COPY a " + "$".repeat(300), "a=");
        tree(check, settings + "COPY a " + "$none,".repeat(80), "a=" + ",".repeat(80));
        tree(check, settings + "RUN put a " + "$v".repeat(15) + "X".repeat(10), "a=" + "123456789012".repeat(15) + "X".repeat(10));
        check.fault(settings + "RUN put a " + "$v".repeat(15) + "X".repeat(11), 4, 3);
    }

    /** "mkdir: the path becomes a directory; it mustn't be there", "the path one name shorter must be a directory of the tree" */
    private static void makesDirectories(Check check) {
        String[] cant = {"mkdir d", "mkdir f", "mkdir g", "mkdir d/h", "mkdir d/e", "mkdir f/a", "mkdir n/a", "mkdir d/e/a",
            "mkdir d/n/a", "mkdir d/h/n/a"};
        for (String command : cant) {
            check.fault(TREE + "RUN " + command, 3, 2);
        }
        tree(check, TREE + "RUN mkdir a;mkdir d/a;mkdir d/h/a;mkdir d/h/a/b;rm f;mkdir f", "a/ d/ d/a/ d/e=3 d/h/ d/h/a/ d/h/a/b/"
                + " d/h/i=4 f/ g= k/");
    }

    /** "COPY and put: the path is a file with the text's signs as bytes", "neither COPY nor put takes a directory's place" */
    private static void makesFiles(Check check) {
        String[] words = {"COPY ", "RUN put "};
        for (String word : words) {
            String[] cant = {"d", "k x", "d/h", "f/a x", "n/a x", "d/e/a x", "d/n/a", "d/h/i/a"};
            for (String path : cant) {
                check.fault(TREE + word + path, 3, 2);
            }
            String rest = " k/";
            tree(check, TREE + word + "a x", "a=x d/ d/e=3 d/h/ d/h/i=4 f=12 g=" + rest);
            tree(check, TREE + word + "f x", "d/ d/e=3 d/h/ d/h/i=4 f=x g=" + rest);
            tree(check, TREE + word + "f", "d/ d/e=3 d/h/ d/h/i=4 f= g=" + rest);
            tree(check, TREE + word + "d/h/a x", "d/ d/e=3 d/h/ d/h/a=x d/h/i=4 f=12 g=" + rest);
        }
    }

    /** "add: the text behind the bytes of a file that is there" */
    private static void adds(Check check) {
        String[] cant = {"add a x", "add a", "add d x", "add k", "add d/a x", "add f/a x", "add n/a x"};
        for (String command : cant) {
            check.fault(TREE + "RUN " + command, 3, 2);
        }
        tree(check, TREE + "RUN rm d;add f 3;add g 4;add g;add f  5", "f=123 5 g=4 k/");
    }

    /** "rm: what is there goes, with all below it" */
    private static void removes(Check check) {
        String[] cant = {"rm a", "rm d/a", "rm f/a", "rm n/a", "rm d/h/a", "rm f;rm f", "rm d;rm d/e", "rm d;rm d/h/i"};
        for (String command : cant) {
            check.fault(TREE + "RUN " + command, 3, 2);
        }
        tree(check, TREE + "RUN rm d", "f=12 g= k/");
        tree(check, TREE + "RUN rm d/h;rm f;rm k", "d/ d/e=3 g=");
        tree(check, TREE + "RUN rm d/h/i", "d/ d/e=3 d/h/ f=12 g= k/");
        tree(check, TREE + "RUN put d0;put dd;rm d", "d0= dd= f=12 g= k/");
    }

    /** "move: what is there, with all below it, comes to the second path, which mustn't be there nor be below the first one" */
    private static void moves(Check check) {
        String[] cant = {"move a b", "move f f", "move f g", "move f d", "move d d", "move d k", "move d d/a", "move d d/h/a",
            "move f f/a", "move f n/a", "move f g/a", "move d/e d/h", "move d/h d/h/a", "move d/e d/e/a", "move a a"};
        for (String command : cant) {
            check.fault(TREE + "RUN " + command, 3, 2);
        }
        tree(check, TREE + "RUN move d b;rm g", "b/ b/e=3 b/h/ b/h/i=4 f=12 k/");
        tree(check, TREE + "RUN move d k/b;rm g", "f=12 k/ k/b/ k/b/e=3 k/b/h/ k/b/h/i=4");
        tree(check, TREE + "RUN move d dd;rm g", "dd/ dd/e=3 dd/h/ dd/h/i=4 f=12 k/");
        tree(check, TREE + "RUN move d/h/i d/i;move d/e e;rm g", "d/ d/h/ d/i=4 e=3 f=12 k/");
        tree(check, TREE + "RUN move f d/h/f;rm g", "d/ d/e=3 d/h/ d/h/f=12 d/h/i=4 k/");
        tree(check, TREE + "RUN put d0 5;move d e;move d0 d;rm g", "d=5 e/ e/e=3 e/h/ e/h/i=4 f=12 k/");
    }

    /** "(nor any path get more than four names)" */
    private static void movedNames(Check check) {
        String deep = START + "RUN mkdir d;mkdir d/h;put d/h/i;mkdir k;mkdir k/l;mkdir k/l/m;put f;mkdir e;mkdir e/n\n";
        tree(check, deep + "RUN move d k/d", "e/ e/n/ f= k/ k/d/ k/d/h/ k/d/h/i= k/l/ k/l/m/");
        check.fault(deep + "RUN move d k/l/d", 3, 2);
        check.fault(deep + "RUN move d k/l/m/d", 3, 2);
        tree(check, deep + "RUN move d/h k/l/d", "d/ e/ e/n/ f= k/ k/l/ k/l/d/ k/l/d/i= k/l/m/");
        check.fault(deep + "RUN move d/h k/l/m/d", 3, 2);
        tree(check, deep + "RUN move f k/l/m/f", "d/ d/h/ d/h/i= e/ e/n/ k/ k/l/ k/l/m/ k/l/m/f=");
        tree(check, deep + "RUN move e k/l/e", "d/ d/h/ d/h/i= f= k/ k/l/ k/l/e/ k/l/e/n/ k/l/m/");
        check.fault(deep + "RUN move e k/l/m/e", 3, 2);
        tree(check, deep + "RUN rm d/h/i;move d k/l/d", "e/ e/n/ f= k/ k/l/ k/l/d/ k/l/d/h/ k/l/m/");
        check.fault(deep + "RUN move f k/l/m/n/f", 1, 2);
        tree(check, deep + "RUN rm d;rm e;move k/l/m m;move m k/l/abcdefgh", "f= k/ k/l/ k/l/abcdefgh/");
    }

    /** "join: the bytes of the second path's file behind those of the first one's" */
    private static void joins(Check check) {
        String[] cant = {"join a f", "join f a", "join d f", "join f d", "join d/h d/e", "join f d/a", "join f/a f"};
        for (String command : cant) {
            check.fault(TREE + "RUN " + command, 3, 2);
        }
        tree(check, TREE + "RUN join f d/e;join g f;rm d", "f=123 g=123 k/");
        tree(check, TREE + "RUN join f f;join g g;rm d;rm k", "f=1212 g=");
        tree(check, TREE + "RUN join f g;join d/e d/h/i;join d/e d/e;rm k", "d/ d/e=3434 d/h/ d/h/i=4 f=12 g=");
    }
}
