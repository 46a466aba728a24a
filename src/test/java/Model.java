import java.util.ArrayList;
import java.util.Arrays;
import java.util.LinkedHashMap;
import java.util.List;
import java.util.Map;
import java.util.NoSuchElementException;
import java.util.TreeMap;

/**
 * The document once more, told with the Java library's maps and texts and nothing of the class
 * itself: the random runs ask both. A directory of a tree is a path without a text (null).
 */
final class Model {
    static final class Yard {
        Map<Long, String> blobs = new LinkedHashMap<>();
        Map<Long, Long> keys = new LinkedHashMap<>();
        Map<Integer, Long> tags = new TreeMap<>();
        StringBuilder journal = new StringBuilder();
        int synced;

        boolean write(int kind, String bytes) {
            StringBuilder record = new StringBuilder();
            record.append((char) kind);
            for (int i = 0; i < 2; i++) {
                record.append((char) (bytes.length() % 256)).append((char) (bytes.length() / 256));
            }
            record.append(bytes);
            record.append((char) (record.chars().sum() % 256));
            if (journal.length() + record.length() > 40000) {
                return false;
            }
            journal.append(record);
            return true;
        }

        boolean keep(String bytes) {
            long digest = digest(bytes);
            if (blobs.containsKey(digest)) {
                return blobs.get(digest).equals(bytes);
            }
            if (blobs.size() == 60 || !write(1, bytes)) {
                return false;
            }
            blobs.put(digest, bytes);
            return true;
        }

        boolean tell(int tag, long digest) {
            Long told = tags.get(tag);
            if (told == null || told != digest) {
                if (!write(2, (char) tag + eight(digest))) {
                    return false;
                }
                tags.put(tag, digest);
            }
            return true;
        }

        boolean remember(long key, long layer) {
            if (!keys.containsKey(key) && keys.size() == 60 || !write(4, eight(key) + eight(layer))) {
                return false;
            }
            keys.put(key, layer);
            return true;
        }
    }

    static final class Image {
        List<Long> layers = new ArrayList<>();
        TreeMap<String, String> settings = new TreeMap<>();

        static Image of(String bytes) {
            Image image = new Image();
            int at = 2;
            for (int i = 0; i < bytes.charAt(1); i++, at += 8) {
                long digest = 0;
                for (int k = 7; k >= 0; k--) {
                    digest = digest * 256 + bytes.charAt(at + k);
                }
                image.layers.add(digest);
            }
            int count = bytes.charAt(at++);
            for (int i = 0; i < count; i++) {
                String name = bytes.substring(at + 1, at + 1 + bytes.charAt(at));
                at += 1 + name.length();
                String value = bytes.substring(at + 1, at + 1 + bytes.charAt(at));
                at += 1 + value.length();
                image.settings.put(name, value);
            }
            return image;
        }

        String bytes() {
            StringBuilder out = new StringBuilder();
            out.append((char) 77).append((char) layers.size());
            layers.forEach(digest -> out.append(eight(digest)));
            out.append((char) settings.size());
            settings.forEach((name, value) -> out.append((char) name.length()).append(name)
                    .append((char) value.length()).append(value));
            return out.toString();
        }
    }

    static final class Transfer {
        boolean open;
        boolean lost;
        boolean done;
        boolean taken;
        int message;
        int sent;
        int from;
        int there;
        String offer;
        String carried;
        long wanted;

        void close(boolean isDone) {
            open = false;
            lost = false;
            message = 0;
            done = isDone;
        }
    }

    static final class Fault extends Exception {
        private static final long serialVersionUID = 1;
        final int kind;

        Fault(int kind) {
            this.kind = kind;
        }
    }

    final Yard[] yards = {new Yard(), new Yard()};
    final Transfer[] transfers = {new Transfer(), new Transfer(), new Transfer(), new Transfer()};
    String text = "";
    int faultLine = -1;
    int steps;
    int hits;

    static String eight(long value) {
        StringBuilder out = new StringBuilder();
        for (int i = 0; i < 8; i++) {
            out.append((char) (value >>> 8 * i & 255));
        }
        return out.toString();
    }

    static long digest(String bytes) {
        long h = -7046029254386353131L;
        for (char b : bytes.toCharArray()) {
            h ^= b;
            h *= 1099511628211L;
        }
        h ^= bytes.length();
        h *= -2960836687156293229L;
        return h ^ (h >>> 32);
    }

    private static String homeOf(String path) {
        int slash = path.lastIndexOf('/');
        return slash < 0 ? null : path.substring(0, slash);
    }

    private static boolean isDirectory(TreeMap<String, String> tree, String path) {
        return path == null || tree.containsKey(path) && tree.get(path) == null;
    }

    private static void dropBelow(TreeMap<String, String> tree, String path) {
        tree.keySet().removeIf(other -> other.startsWith(path + "/"));
    }

    private static String item(int kind, String path, String bytes) {
        return (char) kind + "" + (char) path.length() + path + (char) (bytes.length() % 256)
                + (char) (bytes.length() / 256) + bytes;
    }

    private static boolean isEmptied(TreeMap<String, String> a, TreeMap<String, String> b, String path) {
        if (!a.containsKey(path) || !b.containsKey(path) || a.get(path) != null || b.get(path) != null) {
            return false;
        }
        long below = a.keySet().stream().filter(other -> path.equals(homeOf(other))).count();
        return below >= 2 && a.keySet().stream().noneMatch(other -> path.equals(homeOf(other)) && b.containsKey(other));
    }

    static String changes(TreeMap<String, String> a, TreeMap<String, String> b) {
        TreeMap<String, String> both = new TreeMap<>(a);
        both.putAll(b);
        StringBuilder out = new StringBuilder();
        for (String path : both.keySet()) {
            String was = a.get(path);
            String is = b.get(path);
            String home = homeOf(path);
            if (!b.containsKey(path)) {
                if (home == null || b.containsKey(home) && b.get(home) == null && !isEmptied(a, b, home)) {
                    out.append(item(3, path, ""));
                }
            } else if (is != null) {
                if (!is.equals(was)) {
                    out.append(item(2, path, is));
                }
            } else if (!a.containsKey(path) || was != null) {
                out.append(item(1, path, ""));
            } else if (isEmptied(a, b, path)) {
                out.append(item(4, path, ""));
            }
        }
        return out.toString();
    }

    static boolean isPath(String path) {
        return path.matches("[a-z0-9]{1,8}(/[a-z0-9]{1,8}){0,3}");
    }

    static void apply(TreeMap<String, String> tree, String layer) {
        List<String[]> items = new ArrayList<>();
        int at = 0;
        while (at < layer.length()) {
            int kind = layer.charAt(at);
            if (kind < 1 || kind > 4 || at + 2 > layer.length()) {
                return;
            }
            int behind = at + 2 + layer.charAt(at + 1);
            if (behind + 2 > layer.length() || !isPath(layer.substring(at + 2, behind))) {
                return;
            }
            int count = layer.charAt(behind) + 256 * layer.charAt(behind + 1);
            if (count > (kind == 2 ? 1000 : 0) || behind + 2 + count > layer.length()) {
                return;
            }
            items.add(new String[] {"" + kind, layer.substring(at + 2, behind),
                layer.substring(behind + 2, behind + 2 + count)});
            at = behind + 2 + count;
        }
        items.forEach(item -> applyItem(tree, item[0], item[1], item[2]));
    }

    private static void applyItem(TreeMap<String, String> tree, String kind, String path, String bytes) {
        boolean isThere = tree.containsKey(path);
        if (kind.equals("3") && isThere) {
            tree.remove(path);
            dropBelow(tree, path);
        }
        if (kind.equals("4") && isThere && tree.get(path) == null) {
            dropBelow(tree, path);
        }
        if ((kind.equals("1") || kind.equals("2")) && isDirectory(tree, homeOf(path)) && (isThere || tree.size() < 80)) {
            tree.put(path, kind.equals("1") ? null : bytes);
            if (kind.equals("2")) {
                dropBelow(tree, path);
            }
        }
    }

    static TreeMap<String, String> tree(Yard yard, Image image) {
        TreeMap<String, String> tree = new TreeMap<>();
        image.layers.forEach(digest -> apply(tree, yard.blobs.get(digest)));
        return tree;
    }

    private static boolean isTooGreat(TreeMap<String, String> tree) {
        return tree.size() > 40
                || tree.values().stream().mapToInt(bytes -> bytes == null ? 0 : bytes.length()).sum() > 1000;
    }

    int build(int yard, int tag) {
        faultLine = -1;
        steps = 0;
        hits = 0;
        String[] lines = text.split("\n", -1);
        Image image = null;
        int last = 0;
        int number = 0;
        try {
            for (; number < lines.length; number++) {
                if (!lines[number].isEmpty()) {
                    last = number;
                    image = image == null ? from(yards[yard], lines[number]) : line(yards[yard], image, lines[number]);
                }
            }
            number = last;
            if (image == null) {
                throw new Fault(1);
            }
            if (!yards[yard].keep(image.bytes()) || !yards[yard].tell(tag, digest(image.bytes()))) {
                throw new Fault(5);
            }
            return 0;
        } catch (Fault fault) {
            faultLine = number;
            return fault.kind;
        }
    }

    private static Image from(Yard yard, String line) throws Fault {
        if (line.equals("FROM empty")) {
            return new Image();
        }
        if (!line.matches("FROM [0-7]")) {
            throw new Fault(1);
        }
        Long digest = yard.tags.get(line.charAt(5) - '0');
        if (digest == null) {
            throw new Fault(2);
        }
        return Image.of(yard.blobs.get(digest));
    }

    private Image line(Yard yard, Image image, String line) throws Fault {
        String word = line.split(" ", 2)[0];
        if (word.equals("ENV")) {
            if (!line.matches("ENV [a-z]{1,8} [!-~]{1,12}")) {
                throw new Fault(1);
            }
            String[] words = line.split(" ");
            image.settings.put(words[1], words[2]);
            if (image.settings.size() > 6) {
                throw new Fault(4);
            }
            return image;
        }
        if (!word.equals("COPY") && !word.equals("RUN")) {
            throw new Fault(1);
        }
        String filled = fill(line, image.settings);
        if (filled.length() > 200 || image.layers.size() == 12) {
            throw new Fault(4);
        }
        long key = digest(image.bytes() + line);
        Long known = yard.keys.get(key);
        if (known != null && yard.blobs.containsKey(known)) {
            hits++;
            image.layers.add(known);
        } else {
            image.layers.add(workOut(yard, image, filled, key));
        }
        steps++;
        return image;
    }

    private static String fill(String line, Map<String, String> settings) {
        StringBuilder out = new StringBuilder();
        java.util.regex.Matcher matcher = java.util.regex.Pattern.compile("\\$[a-z]{0,8}").matcher(line);
        int at = 0;
        while (matcher.find()) {
            out.append(line, at, matcher.start());
            out.append(settings.getOrDefault(matcher.group().substring(1), ""));
            at = matcher.end();
        }
        return out.append(line.substring(at)).toString();
    }

    private static long workOut(Yard yard, Image image, String line, long key) throws Fault {
        TreeMap<String, String> before = tree(yard, image);
        if (isTooGreat(before)) {
            throw new Fault(4);
        }
        TreeMap<String, String> behind = new TreeMap<>(before);
        if (line.startsWith("COPY")) {
            command(behind, "put" + line.substring(4));
        } else {
            for (String command : line.substring(3).split(";", -1)) {
                command(behind, command.replaceAll("^ +| +$", ""));
            }
        }
        String layer = changes(before, behind);
        if (!yard.keep(layer) || !yard.remember(key, digest(layer))) {
            throw new Fault(5);
        }
        return digest(layer);
    }

    private static void command(TreeMap<String, String> tree, String command) throws Fault {
        String[] words = command.split(" ", -1);
        boolean isRight = words.length > 1 && isPath(words[1]);
        switch (words[0]) {
            case "mkdir", "rm" -> isRight &= words.length == 2;
            case "move", "join" -> isRight &= words.length == 3 && isPath(words[2]);
            case "put", "add" -> { }
            default -> isRight = false;
        }
        if (!isRight) {
            throw new Fault(1);
        }
        String path = words[1];
        int textStart = words[0].length() + path.length() + 2;
        String text = textStart > command.length() ? "" : command.substring(textStart);
        if (!isDone(tree, words[0], path, text)) {
            throw new Fault(3);
        }
        if (isTooGreat(tree)) {
            throw new Fault(4);
        }
    }

    private static boolean isDone(TreeMap<String, String> tree, String word, String path, String rest) {
        boolean isFile = tree.get(path) != null;
        boolean isThere = tree.containsKey(path);
        boolean hasHome = isDirectory(tree, homeOf(path));
        switch (word) {
            case "put":
                if (isThere && !isFile || !hasHome) {
                    return false;
                }
                tree.put(path, rest);
                return true;
            case "add":
                return isFile && tree.put(path, tree.get(path) + rest) != null;
            case "join":
                return isFile && tree.get(rest) != null && tree.put(path, tree.get(path) + tree.get(rest)) != null;
            case "mkdir":
                return !isThere && hasHome && tree.put(path, null) == null;
            case "rm":
                tree.remove(path);
                dropBelow(tree, path);
                return isThere;
            default:
                return isThere && isMoved(tree, path, rest);
        }
    }

    private static boolean isMoved(TreeMap<String, String> tree, String path, String to) {
        if (tree.containsKey(to) || to.startsWith(path + "/") || !isDirectory(tree, homeOf(to))) {
            return false;
        }
        TreeMap<String, String> moved = new TreeMap<>();
        tree.forEach((other, bytes) -> moved.put(
                other.equals(path) || other.startsWith(path + "/") ? to + other.substring(path.length()) : other, bytes));
        if (moved.keySet().stream().anyMatch(other -> other.split("/").length > 4)) {
            return false;
        }
        tree.clear();
        tree.putAll(moved);
        return true;
    }

    void retag(int yard, int tag, int from) {
        if (!yards[yard].tags.containsKey(from)) {
            throw new NoSuchElementException();
        }
        if (!yards[yard].tell(tag, yards[yard].tags.get(from))) {
            throw new UnsupportedOperationException();
        }
    }

    void untag(int yard, int tag) {
        if (!yards[yard].tags.containsKey(tag)) {
            throw new NoSuchElementException();
        }
        if (!yards[yard].write(3, "" + (char) tag)) {
            throw new UnsupportedOperationException();
        }
        yards[yard].tags.remove(tag);
    }

    int crash(int yard, int n, int spoilt) {
        Yard old = yards[yard];
        if (n < 0 || n > old.journal.length() - old.synced) {
            throw new IllegalArgumentException();
        }
        StringBuilder left = new StringBuilder(old.journal.substring(0, old.synced + n));
        if (spoilt >= 0 && spoilt < n) {
            left.setCharAt(old.synced + spoilt, (char) (left.charAt(old.synced + spoilt) ^ 255));
        }
        Yard back = new Yard();
        int at = 0;
        while (at + 6 <= left.length()) {
            int count = left.charAt(at + 1) + 256 * left.charAt(at + 2);
            int end = at + 6 + count;
            if (count != left.charAt(at + 3) + 256 * left.charAt(at + 4) || end > left.length()
                    || left.substring(at, end - 1).chars().sum() % 256 != left.charAt(end - 1)) {
                break;
            }
            learn(back, left.charAt(at), left.substring(at + 5, end - 1));
            at = end;
        }
        back.journal.append(left, 0, at);
        back.synced = at;
        yards[yard] = back;
        Arrays.stream(transfers).filter(transfer -> transfer.open).forEach(transfer -> transfer.close(false));
        return at;
    }

    private static void learn(Yard yard, int kind, String bytes) {
        if (kind == 1) {
            yard.blobs.put(digest(bytes), bytes);
        } else if (kind == 2) {
            yard.tags.put((int) bytes.charAt(0), Image.of("M\1" + bytes.substring(1) + "\0").layers.get(0));
        } else if (kind == 3) {
            yard.tags.remove((int) bytes.charAt(0));
        } else {
            List<Long> two = Image.of("M\2" + bytes + "\0").layers;
            yard.keys.put(two.get(0), two.get(1));
        }
    }

    int collect(int yard) {
        Yard old = yards[yard];
        List<Long> needed = new ArrayList<>();
        for (long digest : old.tags.values()) {
            needed.add(digest);
            needed.addAll(Image.of(old.blobs.get(digest)).layers);
        }
        for (Transfer transfer : transfers) {
            if (transfer.open && transfer.taken && transfer.from != yard) {
                needed.addAll(Image.of(transfer.offer).layers);
            }
        }
        Yard now = new Yard();
        old.blobs.forEach((digest, bytes) -> {
            if (needed.contains(digest)) {
                now.keep(bytes);
            }
        });
        old.tags.forEach(now::tell);
        old.keys.forEach((key, layer) -> {
            if (now.blobs.containsKey(layer)) {
                now.remember(key, layer);
            }
        });
        now.synced = now.journal.length();
        yards[yard] = now;
        return old.blobs.size() - now.blobs.size();
    }

    int send(int yard, int tag, int there) {
        if (!yards[yard].tags.containsKey(tag)) {
            throw new NoSuchElementException();
        }
        for (int i = 0; i < 4; i++) {
            if (!transfers[i].open) {
                transfers[i] = new Transfer();
                transfers[i].open = true;
                transfers[i].message = 1;
                transfers[i].from = yard;
                transfers[i].there = there;
                transfers[i].offer = yards[yard].blobs.get(yards[yard].tags.get(tag));
                return i;
            }
        }
        throw new IllegalStateException();
    }

    int deliver(int number) {
        Transfer transfer = transfers[number];
        if (!transfer.open || transfer.lost) {
            throw new IllegalStateException();
        }
        Yard giver = yards[transfer.from];
        Yard taker = yards[1 - transfer.from];
        if (transfer.message == 4) {
            transfer.close(true);
        } else if (transfer.message == 2) {
            transfer.carried = giver.blobs.get(transfer.wanted);
            if (transfer.carried == null) {
                transfer.close(false);
            } else {
                transfer.message = 3;
                transfer.sent++;
            }
        } else if (transfer.message == 3 && !taker.keep(transfer.carried)) {
            transfer.close(false);
        } else {
            transfer.taken = true;
            answer(transfer, taker);
        }
        return transfer.message;
    }

    private static void answer(Transfer transfer, Yard taker) {
        for (long digest : Image.of(transfer.offer).layers) {
            if (!taker.blobs.containsKey(digest)) {
                transfer.message = 2;
                transfer.wanted = digest;
                return;
            }
        }
        if (taker.keep(transfer.offer) && taker.tell(transfer.there, digest(transfer.offer))) {
            transfer.message = 4;
        } else {
            transfer.close(false);
        }
    }

    void lose(int number, boolean lost) {
        if (!transfers[number].open || transfers[number].lost == lost) {
            throw new IllegalStateException();
        }
        transfers[number].lost = lost;
    }
}
