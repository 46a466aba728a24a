import java.util.ArrayList;
import java.util.List;
import java.util.Random;
import java.util.TreeMap;
import java.util.function.LongSupplier;

/** Random runs of calls, asked of the class and of the model; the seeds are fixed. */
public final class RandomRunsTest {
    private static final String[] NAMES = {"a", "b", "c", "d", "a0", "ab", "e", "zz"};
    private static final String MARKS = "  ;;//$$\n\n09azAZ~!:`{-.";
    private static final int RUNS = 400;
    /** A file has fewer signs than the document allows, so that a run has calls left for more than two builds. */
    private static final int MOST_SIGNS = 400;

    private final Random random;
    private final String title;
    private final Yards x = new Yards();
    private final Model model = new Model();
    private final Check check;
    private final List<String> told = new ArrayList<>();
    /** Runs that collect seldom and like great trees; others of these like many keys, others long journals. */
    private final boolean isGreedy;
    private final boolean likesKeys;
    private final boolean likesBytes;
    private final boolean likesBlobs;
    private final boolean hasTwins;
    private final boolean hasTypos;
    static final int[] FAULTS = new int[6];
    static int fullJournals;
    static int fullYards;
    static int fullKeys;
    static int doneTransfers;
    static int twinTrees;

    private RandomRunsTest(long seed, Check check) {
        random = new Random(seed);
        title = "run " + seed;
        this.check = check;
        isGreedy = seed % 4 != 0;
        likesKeys = seed % 4 == 2;
        likesBytes = seed % 4 == 3;
        likesBlobs = seed % 8 == 5;
        hasTwins = seed % 8 < 2;
        hasTypos = seed % 3 == 0;
    }

    public static void main(String[] args) {
        Check check = new Check();
        long first = args.length > 0 ? Long.parseLong(args[0]) : 1;
        int runs = args.length > 1 ? Integer.parseInt(args[1]) : RUNS;
        for (long seed = first; seed < first + runs; seed++) {
            new RandomRunsTest(seed, check).run();
        }
        for (int fault = 0; fault < FAULTS.length; fault++) {
            check.holds("the runs come to fault " + fault, FAULTS[fault] > 0);
        }
        check.holds("the runs fill journals (" + fullJournals + ")", fullJournals > 0);
        check.holds("the runs fill yards with blobs (" + fullYards + ")", fullYards > 0);
        check.holds("the runs fill yards with keys (" + fullKeys + ")", fullKeys > 0);
        check.holds("transfers come to their ends (" + doneTransfers + ")", doneTransfers > 0);
        check.holds("one image has two trees (" + twinTrees + ")", twinTrees > 0);
        if (args.length > 0) {
            System.out.println(java.util.Arrays.toString(FAULTS) + " " + fullJournals + " " + fullYards + " "
                    + fullKeys + " " + doneTransfers + " " + twinTrees);
        }
        check.end();
    }

    private void run() {
        for (int i = 1; x.left() > MOST_SIGNS / 4 + 4; i++) {
            call();
            if (i % 20 == 0) {
                compare();
            }
        }
        compare();
        for (Model.Yard yard : model.yards) {
            fullJournals += yard.journal.length() > 39900 ? 1 : 0;
            fullYards += yard.blobs.size() == 60 ? 1 : 0;
            fullKeys += yard.keys.size() == 60 ? 1 : 0;
        }
    }

    private void call() {
        int yard = random.nextInt(8) == 0 ? 1 : 0;
        if (!isGreedy) {
            yard = random.nextInt(2);
        }
        int here = yard;
        int tag = random.nextInt(8);
        int other = random.nextInt(8);
        int what = random.nextInt(100);
        int transfer = random.nextInt(4);
        if (what < 40) {
            write(hasTypos && random.nextInt(2) == 0 ? typo(file()) : file());
            ask("build", here, tag, 0, () -> x.build(here, tag), () -> counted(model.build(here, tag)));
        } else if (what < 45) {
            ask("retag", here, tag, other, () -> none(() -> x.retag(here, tag, other)),
                    () -> none(() -> model.retag(here, tag, other)));
        } else if (what < 49) {
            ask("untag", here, tag, 0, () -> none(() -> x.untag(here, tag)), () -> none(() -> model.untag(here, tag)));
        } else if (what < 52 && !isGreedy || what == 51 && random.nextInt(8) == 0) {
            ask("collect", here, 0, 0, () -> x.collect(here), () -> model.collect(here));
        } else if (what < 54) {
            x.sync(here);
            model.yards[here].synced = model.yards[here].journal.length();
        } else if (what < 56 && !isGreedy || what == 55 && random.nextInt(10) == 0) {
            int more = model.yards[here].journal.length() - model.yards[here].synced;
            int n = more - (random.nextBoolean() ? 0 : random.nextInt(more + 1)) + (random.nextInt(10) == 0 ? 1 : 0);
            int spoilt = random.nextBoolean() ? n - 1 - random.nextInt(Math.max(1, n)) / 4 : -1;
            ask("crash", here, n, spoilt, () -> x.crash(here, n, spoilt), () -> model.crash(here, n, spoilt));
        } else if (what < 62) {
            ask("send", here, tag, other, () -> x.send(here, tag, other), () -> model.send(here, tag, other));
        } else if (what < 66) {
            boolean lost = random.nextBoolean();
            ask("lose", transfer, lost ? 1 : 0, 0, () -> none(() -> x.lose(transfer, lost)),
                    () -> none(() -> model.lose(transfer, lost)));
        } else {
            ask("deliver", transfer, 0, 0, () -> x.deliver(transfer), () -> model.deliver(transfer));
        }
    }

    private static int counted(int fault) {
        FAULTS[fault]++;
        return fault;
    }

    private static long none(Runnable call) {
        call.run();
        return 0;
    }

    private void ask(String call, int a, int b, int c, LongSupplier of, LongSupplier due) {
        String name = call + "(" + a + ", " + b + ", " + c + ")";
        told.add(name);
        String got = answer(of);
        String wanted = answer(due);
        check.holds(title + ": " + name + " answers " + wanted + " (it is " + got + ")" + (got.equals(wanted) ? "" : told),
                got.equals(wanted));
    }

    private static String answer(LongSupplier call) {
        try {
            return "" + call.getAsLong();
        } catch (RuntimeException e) {
            return e.getClass().getName();
        }
    }

    /** Signs that are left out, put in, changed or doubled: mostly those that part words, lines, names and commands. */
    private String typo(String text) {
        StringBuilder out = new StringBuilder(text);
        for (int i = random.nextInt(4); i >= 0; i--) {
            int at = random.nextInt(out.length() + 1);
            if (random.nextInt(3) != 0) {
                at = nextMark(out, at);
            }
            int kind = random.nextInt(4);
            if (kind < 2 && at < out.length()) {
                out.deleteCharAt(at);
            }
            if (kind > 0) {
                out.insert(at, kind == 3 && at < out.length() ? out.charAt(at) : MARKS.charAt(random.nextInt(MARKS.length())));
            }
        }
        return out.length() > MOST_SIGNS ? out.substring(0, MOST_SIGNS) : out.toString();
    }

    private static int nextMark(CharSequence text, int from) {
        for (int at = from; at < text.length(); at++) {
            if (" ;/$\n".indexOf(text.charAt(at)) >= 0) {
                return at;
            }
        }
        return text.length();
    }

    /** Signs that the file has already stay. */
    private void write(String text) {
        int same = 0;
        while (same < text.length() && same < model.text.length() && text.charAt(same) == model.text.charAt(same)) {
            same++;
        }
        x.end(same);
        Check.append(x, text.substring(same));
        model.text = text;
        told.add(text);
    }

    private String name() {
        return isGreedy && random.nextInt(2) == 0 ? word(8) : NAMES[random.nextInt(random.nextInt(4) == 0 ? 8 : 4)];
    }

    private String word(int most) {
        StringBuilder out = new StringBuilder();
        int count = 1 + random.nextInt(most);
        for (int i = 0; i < count; i++) {
            out.append((char) ('a' + random.nextInt(26)));
        }
        return out.toString();
    }

    private String path() {
        StringBuilder out = new StringBuilder(name());
        while (random.nextInt(isGreedy ? 6 : 2) == 0) {
            out.append('/').append(name());
        }
        if (random.nextInt(200) == 0) {
            out.append(random.nextBoolean() ? "/" : "-");
        }
        return out.toString();
    }

    private String some() {
        StringBuilder out = new StringBuilder();
        int count = random.nextInt(isGreedy ? 60 : 8);
        for (int i = 0; i < count; i++) {
            int kind = random.nextInt(16);
            out.append(kind == 0 ? "$v" : kind == 1 ? " " : kind == 2 ? "$" + NAMES[random.nextInt(4)]
                    : "" + (char) ('A' + random.nextInt(26)));
        }
        return out.toString();
    }

    private String command() {
        switch (random.nextInt(isGreedy ? 20 : 12)) {
            case 0, 1, 2:
                return "mkdir " + path();
            case 3:
                return "rm " + path();
            case 4:
                return "add " + path() + " " + some();
            case 5:
                return "move " + path() + " " + path();
            case 6:
                return "join " + path() + " " + path();
            case 7:
                return random.nextInt(12) == 0 ? "rn a" : "rm " + name();
            default:
                return "put " + path() + (random.nextInt(8) == 0 ? "" : " " + some());
        }
    }

    /** Lines with layers and images of one digest. */
    private String twin() {
        switch (random.nextInt(8)) {
            case 0:
                return "RUN rm d;put t " + CollisionTest.FIRST;
            case 5:
                return "RUN rm d;put d;put t " + CollisionTest.FILED;
            case 6:
                return "COPY t " + CollisionTest.UNFILED;
            case 3:
                return "COPY t " + CollisionTest.ONE;
            case 4:
                return "COPY t " + CollisionTest.OTHER;
            case 1:
                return "COPY t " + CollisionTest.SECOND;
            case 2:
                return "COPY t " + CollisionTest.TEXT;
            default:
                return "RUN mkdir d;put d/" + name() + ";put d/" + name();
        }
    }

    private String line() {
        int kind = random.nextInt(20);
        if (hasTwins && random.nextInt(3) == 0) {
            return twin();
        }
        if (kind < 3) {
            return "ENV " + (random.nextInt(3) == 0 ? "v" : random.nextInt(5) == 0 ? word(8) : NAMES[random.nextInt(4)]) + " "
                    + (random.nextInt(3) == 0 ? "$v;rm" : random.nextInt(20) == 0 ? "" : word(12));
        }
        if (kind < 7) {
            return "COPY " + path() + " " + some();
        }
        if (kind == 7) {
            return random.nextInt(6) == 0 ? word(8) : "";
        }
        StringBuilder out = new StringBuilder("RUN ");
        int count = 1 + random.nextInt(isGreedy ? 12 : 4);
        for (int i = 0; i < count; i++) {
            out.append(i == 0 ? "" : random.nextInt(3) == 0 ? " ; " : ";").append(command());
        }
        return out.toString();
    }

    private String file() {
        int left = 40000 - model.yards[0].journal.length();
        if (likesBytes && left > 500 && random.nextInt(4) != 0) {
            StringBuilder out = new StringBuilder("FROM empty");
            out.append("\nRUN put a ").append((word(9) + "x".repeat(60)).substring(0, 60 - random.nextInt(4)))
                    .append(";join a a;join a a;join a a;join a a");
            return out.append(("\nRUN add a " + word(1)).repeat(random.nextInt(12))).toString();
        }
        if (likesKeys && random.nextInt(3) != 0) {
            return "FROM empty\nENV a " + word(1) + "\nCOPY a".repeat(random.nextInt(13));
        }
        if (likesBlobs && random.nextInt(3) != 0) {
            StringBuilder out = new StringBuilder("FROM empty");
            for (int i = random.nextInt(13); i > 0; i--) {
                out.append("\nCOPY a ").append((char) ('0' + random.nextInt(75)));
            }
            return out.toString();
        }
        if (hasTwins && random.nextInt(12) == 0) {
            return "FROM empty\nENV v " + CollisionTest.VALUE;
        }
        StringBuilder out = new StringBuilder();
        if (random.nextInt(3) == 0 && !model.text.isEmpty()) {
            String[] lines = model.text.split("\n", -1);
            out.append(lines[0]);
            for (int i = 1; i < lines.length - random.nextInt(3); i++) {
                out.append('\n').append(lines[i]);
            }
            out.append('\n').append(line());
            return out.length() > MOST_SIGNS ? out.substring(0, MOST_SIGNS) : out.toString();
        }
        int from = random.nextInt(12);
        if (random.nextInt(8) != 0 && !model.yards[0].tags.containsKey(from) && !model.yards[1].tags.containsKey(from)) {
            from = 10;
        }
        out.append(from < 8 && (isGreedy || from < 5) ? "FROM " + from : from == 11 && random.nextInt(8) == 0 ? "FROM 8" : "FROM empty");
        int count = random.nextInt(isGreedy ? 6 : 5);
        for (int i = 0; i < count; i++) {
            out.append('\n').append(line());
        }
        return out.length() > MOST_SIGNS ? out.substring(0, MOST_SIGNS) : out.toString();
    }

    private void compare() {
        same("built", model.faultLine, x.built(0));
        same("built", model.steps, x.built(1));
        same("built", model.hits, x.built(2));
        for (int yard = 0; yard < 2; yard++) {
            compareYard(yard, model.yards[yard]);
        }
        for (long digest : model.yards[0].tags.values()) {
            if (hasTwins && model.yards[1].tags.containsValue(digest)) {
                Model.Image image = Model.Image.of(model.yards[0].blobs.get(digest));
                twinTrees += Model.tree(model.yards[0], image).equals(Model.tree(model.yards[1], image)) ? 0 : 1;
            }
        }
        for (int i = 0; i < 4; i++) {
            Model.Transfer transfer = model.transfers[i];
            same("message", transfer.message, x.transfer(i, 0));
            same("lost", transfer.lost ? 1 : 0, x.transfer(i, 1));
            same("sent", transfer.sent, x.transfer(i, 2));
            same("done", transfer.done ? 1 : 0, x.transfer(i, 3));
            doneTransfers += transfer.done ? 1 : 0;
        }
    }

    private void same(String what, long due, long got) {
        check.due(title + " after " + (due == got ? "" : told) + ": " + what, got, due);
    }

    private void compareYard(int number, Model.Yard yard) {
        same("blobs", yard.blobs.size(), x.yard(number, 0));
        same("keys", yard.keys.size(), x.yard(number, 1));
        same("journal", yard.journal.length(), x.yard(number, 2));
        same("synced", yard.synced, x.yard(number, 3));
        int length = Math.min(yard.journal.length(), x.yard(number, 2));
        for (int k = random.nextInt(8) == 0 ? 0 : Math.max(0, length - 50); k < length; k++) {
            int got = x.journal(number, k);
            if (yard.journal.charAt(k) != got) {
                same("journal's byte " + k, yard.journal.charAt(k), got);
                break;
            }
        }
        yard.blobs.forEach((digest, bytes) -> {
            same("blob", bytes.length(), x.blob(number, digest));
            if (random.nextInt(60) == 0) {
                check.holds(title + ": a blob's bytes",
                        new String(Check.blob(x, number, digest), java.nio.charset.StandardCharsets.ISO_8859_1).equals(bytes));
            }
        });
        for (int tag = 0; tag < 8; tag++) {
            Long digest = yard.tags.get(tag);
            same("tag", digest == null ? 0 : digest, x.tag(number, tag));
            if (digest != null) {
                compareImage(number, tag, yard, Model.Image.of(yard.blobs.get(digest)));
            }
        }
    }

    private void compareImage(int number, int tag, Model.Yard yard, Model.Image image) {
        same("layers", image.layers.size(), x.image(number, tag, 0));
        same("settings", image.settings.size(), x.image(number, tag, 1));
        for (int i = 0; i < image.layers.size(); i++) {
            same("layer", image.layers.get(i), x.layer(number, tag, i));
        }
        TreeMap<String, String> tree = Model.tree(yard, image);
        StringBuilder due = new StringBuilder();
        tree.forEach((path, bytes) -> due.append(due.length() == 0 ? "" : " ").append(path)
                .append(bytes == null ? "/" : "=" + bytes));
        same("entries", tree.size(), x.image(number, tag, 2));
        if (random.nextInt(8) == 0) {
            check.tree(x, number, tag, due.toString());
        }
    }
}
