import java.util.NoSuchElementException;

/** Two yards of images: the promises that this class keeps stand in DOC.md. */
public final class ImageYard {
    public static final int NONE = -1;

    private static final int TAGS = 8;
    private static final int MOST_SIGNS = 600;
    private static final int MOST_LINE_SIGNS = 200;
    private static final int MOST_BLOBS = 60;
    private static final int MOST_KEYS = 60;
    private static final int MOST_JOURNAL = 40000;

    private static final int LINE_END = 10;

    private static final int MOST_NAMES = 4;
    private static final int MOST_NAME_SIGNS = 8;
    private static final int MOST_PATH_SIGNS = 35;
    private static final int MOST_ENTRIES = 40;
    private static final int MOST_APPLIED_ENTRIES = 80;
    private static final int MOST_FILE_BYTES = 1000;

    private static final int DIRECTORY = 1;
    private static final int FILE = 2;
    private static final int GONE = 3;
    private static final int EMPTIED = 4;

    /** Forty paths go and forty come, and the files have their bytes. */
    private static final int MOST_LAYER_BYTES = 80 * (4 + MOST_PATH_SIGNS) + MOST_FILE_BYTES;

    private static final int IMAGE_MARK = 77;
    private static final int MOST_LAYERS = 12;
    private static final int MOST_SETTINGS = 6;
    private static final int MOST_VALUE_SIGNS = 12;
    private static final int MOST_IMAGE_BYTES = 3 + 8 * MOST_LAYERS
            + MOST_SETTINGS * (2 + MOST_NAME_SIGNS + MOST_VALUE_SIGNS);

    private static final int WRONG_LINE = 1;
    private static final int NO_IMAGE = 2;
    private static final int NOT_DONE = 3;
    private static final int TOO_GREAT = 4;
    private static final int NO_ROOM = 5;

    private static final int OFFER = 1;
    private static final int WANT = 2;
    private static final int BLOB = 3;
    private static final int DONE = 4;

    private final Yard[] yards;
    private final Transfer[] transfers;
    private final Row text;
    private final Builder builder;
    private final Image read;
    private final Changes changes;
    private final Tree shown;

    public ImageYard() {
        yards = new Yard[2];
        for (int i = 0; i < yards.length; i++) {
            yards[i] = new Yard();
        }
        transfers = new Transfer[4];
        for (int i = 0; i < transfers.length; i++) {
            transfers[i] = new Transfer();
        }
        text = new Row(MOST_SIGNS);
        builder = new Builder();
        read = new Image();
        changes = new Changes();
        shown = new Tree();
    }

    public int put(int signs) throws IllegalArgumentException, UnsupportedOperationException {
        int more = 0;
        for (int shift = 0; shift < 32; shift += 8) {
            int sign = signs >>> shift & 255;
            if (sign != 0 && sign != LINE_END && (sign < 32 || sign > 126)) {
                throw new IllegalArgumentException();
            }
            more += sign == 0 ? 0 : 1;
        }
        if (!text.hasRoom(more)) {
            throw new UnsupportedOperationException();
        }
        for (int shift = 0; shift < 32; shift += 8) {
            int sign = signs >>> shift & 255;
            if (sign != 0) {
                text.add(sign);
            }
        }
        return text.size;
    }

    public void end(int n) throws IllegalArgumentException {
        if (n < 0 || n > text.size) {
            throw new IllegalArgumentException();
        }
        text.size = n;
    }

    public int build(int yard, int tag) throws IllegalArgumentException {
        Yard here = checkedYard(yard);
        checkTag(tag);
        builder.start();
        int from = 0;
        while (from < text.size && builder.fault == 0) {
            int end = text.find(LINE_END, from, text.size);
            if (builder.readLine(here, text, from, end)) {
                builder.doStep(here);
            }
            from = end + 1;
        }
        return builder.finish(here, tag);
    }

    public int built(int what) throws IllegalArgumentException {
        switch (what) {
            case 0:
                return builder.faultLine;
            case 1:
                return builder.steps;
            case 2:
                return builder.hits;
            default:
                throw new IllegalArgumentException();
        }
    }

    public long tag(int yard, int tag) throws IllegalArgumentException {
        Yard here = checkedYard(yard);
        checkTag(tag);
        return here.told[tag] ? here.tags[tag] : 0;
    }

    public void retag(int yard, int tag, int from)
            throws IllegalArgumentException, NoSuchElementException, UnsupportedOperationException {
        Yard here = checkedYard(yard);
        checkTag(tag);
        checkTag(from);
        checkTold(here, from);
        if (!here.tell(tag, here.tags[from])) {
            throw new UnsupportedOperationException();
        }
    }

    public void untag(int yard, int tag)
            throws IllegalArgumentException, NoSuchElementException, UnsupportedOperationException {
        Yard here = checkedYard(yard);
        checkTag(tag);
        checkTold(here, tag);
        if (!here.untell(tag)) {
            throw new UnsupportedOperationException();
        }
    }

    public int image(int yard, int tag, int what) throws IllegalArgumentException, NoSuchElementException {
        Yard here = checkedYard(yard);
        checkTag(tag);
        checkTold(here, tag);
        here.readImage(tag, read);
        switch (what) {
            case 0:
                return read.layerCount;
            case 1:
                return read.settingCount;
            case 2:
                changes.grow(here, read, shown);
                return shown.count;
            default:
                throw new IllegalArgumentException();
        }
    }

    public long layer(int yard, int tag, int i)
            throws IllegalArgumentException, NoSuchElementException, IndexOutOfBoundsException {
        Yard here = checkedYard(yard);
        checkTag(tag);
        checkTold(here, tag);
        here.readImage(tag, read);
        if (i < 0 || i >= read.layerCount) {
            throw new IndexOutOfBoundsException();
        }
        return read.layers[i];
    }

    public int entry(int yard, int tag, int i, int k, int what)
            throws IllegalArgumentException, NoSuchElementException, IndexOutOfBoundsException {
        Yard here = checkedYard(yard);
        checkTag(tag);
        checkTold(here, tag);
        here.readImage(tag, read);
        changes.grow(here, read, shown);
        if (i < 0 || i >= shown.count || k < 0) {
            throw new IndexOutOfBoundsException();
        }
        Entry entry = shown.entries[i];
        switch (what) {
            case 0:
                return k < entry.length ? entry.path[k] : NONE;
            case 1:
                return entry.byteAt(k);
            case 2:
                return entry.kind;
            case 3:
                return entry.bytes;
            default:
                throw new IllegalArgumentException();
        }
    }

    public int blob(int yard, long digest) throws IllegalArgumentException {
        Yard here = checkedYard(yard);
        int place = here.find(digest);
        return place == NONE ? NONE : here.lengths[place];
    }

    public int byteOf(int yard, long digest, int k)
            throws IllegalArgumentException, NoSuchElementException, IndexOutOfBoundsException {
        Yard here = checkedYard(yard);
        int place = here.find(digest);
        if (place == NONE) {
            throw new NoSuchElementException();
        }
        if (k < 0 || k >= here.lengths[place]) {
            throw new IndexOutOfBoundsException();
        }
        return here.records.at(here.starts[place] + k);
    }

    public int yard(int yard, int what) throws IllegalArgumentException {
        Yard here = checkedYard(yard);
        switch (what) {
            case 0:
                return here.blobCount;
            case 1:
                return here.keyCount;
            case 2:
                return here.records.size;
            case 3:
                return here.synced;
            default:
                throw new IllegalArgumentException();
        }
    }

    public int journal(int yard, int k) throws IllegalArgumentException, IndexOutOfBoundsException {
        Yard here = checkedYard(yard);
        if (k < 0 || k >= here.records.size) {
            throw new IndexOutOfBoundsException();
        }
        return here.records.at(k);
    }

    public void sync(int yard) throws IllegalArgumentException {
        Yard here = checkedYard(yard);
        here.synced = here.records.size;
    }

    public int crash(int yard, int n, int spoilt) throws IllegalArgumentException {
        Yard here = checkedYard(yard);
        if (n < 0 || n > here.records.size - here.synced) {
            throw new IllegalArgumentException();
        }
        here.comeBack(n, spoilt);
        for (int i = 0; i < transfers.length; i++) {
            // Each transfer has both yards at its ends, so none outlives a crash.
            if (transfers[i].open) {
                transfers[i].close(false);
            }
        }
        return here.records.size;
    }

    public int collect(int yard) throws IllegalArgumentException {
        Yard here = checkedYard(yard);
        here.markTold(read);
        for (int i = 0; i < transfers.length; i++) {
            if (transfers[i].isTakenBy(yard)) {
                read.take(transfers[i].offer, 0);
                here.markLayers(read);
            }
        }
        return here.sweep();
    }

    public int send(int yard, int tag, int there)
            throws IllegalArgumentException, NoSuchElementException, IllegalStateException {
        Yard here = checkedYard(yard);
        checkTag(tag);
        checkTag(there);
        checkTold(here, tag);
        for (int i = 0; i < transfers.length; i++) {
            if (!transfers[i].open) {
                transfers[i].begin(yard, here, tag, there);
                return i;
            }
        }
        throw new IllegalStateException();
    }

    public int deliver(int transfer) throws IllegalArgumentException, IllegalStateException {
        Transfer latest = checkedTransfer(transfer);
        if (!latest.open || latest.lost) {
            throw new IllegalStateException();
        }
        Yard giver = yards[latest.giver == 0 ? 0 : 1];
        Yard taker = yards[latest.giver == 0 ? 1 : 0];
        latest.arrive(giver, taker, read);
        return latest.message;
    }

    public void lose(int transfer, boolean lost) throws IllegalArgumentException, IllegalStateException {
        Transfer latest = checkedTransfer(transfer);
        if (!latest.open || latest.lost == lost) {
            throw new IllegalStateException();
        }
        latest.lost = lost;
    }

    public int transfer(int transfer, int what) throws IllegalArgumentException {
        Transfer latest = checkedTransfer(transfer);
        switch (what) {
            case 0:
                return latest.message;
            case 1:
                return latest.lost ? 1 : 0;
            case 2:
                return latest.sent;
            case 3:
                return latest.done ? 1 : 0;
            default:
                throw new IllegalArgumentException();
        }
    }

    private Yard checkedYard(int yard) {
        if (yard < 0 || yard >= yards.length) {
            throw new IllegalArgumentException();
        }
        return yards[yard];
    }

    private Transfer checkedTransfer(int transfer) {
        if (transfer < 0 || transfer >= transfers.length) {
            throw new IllegalArgumentException();
        }
        return transfers[transfer];
    }

    private static void checkTag(int tag) {
        if (tag < 0 || tag >= TAGS) {
            throw new IllegalArgumentException();
        }
    }

    private static void checkTold(Yard yard, int tag) {
        if (!yard.told[tag]) {
            throw new NoSuchElementException();
        }
    }

    /** Bytes in a room that is made once and used again. */
    private static final class Row {
        final byte[] cells;
        int size;

        Row(int room) {
            cells = new byte[room];
        }

        boolean hasRoom(int more) {
            return more <= cells.length - size;
        }

        /** The byte at k, 0 .. 255; NONE outside of the row. */
        int at(int k) {
            return k >= 0 && k < size ? cells[k] & 255 : NONE;
        }

        void add(int b) {
            if (size < cells.length) {
                cells[size] = (byte) b;
                size++;
            }
        }

        void addAll(Row from, int start, int count) {
            if (start >= 0 && count >= 0 && count <= from.size - start && hasRoom(count)) {
                System.arraycopy(from.cells, start, cells, size, count);
                size += count;
            }
        }

        void addShort(int value) {
            add(value);
            add(value >>> 8);
        }

        void addLong(long value) {
            for (int shift = 0; shift < 64; shift += 8) {
                add((int) (value >>> shift));
            }
        }

        int shortAt(int k) {
            return at(k) & 255 | (at(k + 1) & 255) << 8;
        }

        long longAt(int k) {
            long value = 0;
            for (int i = 7; i >= 0; i--) {
                value = value << 8 | at(k + i) & 255;
            }
            return value;
        }

        long digest(int start, int count) {
            long h = -7046029254386353131L;
            for (int i = 0; i < count; i++) {
                h = (h ^ at(start + i) & 255) * 1099511628211L;
            }
            h = (h ^ count) * -2960836687156293229L;
            return h ^ h >>> 32;
        }

        boolean isSame(int start, Row other, int otherStart, int count) {
            for (int i = 0; i < count; i++) {
                if (at(start + i) != other.at(otherStart + i)) {
                    return false;
                }
            }
            return true;
        }

        boolean says(int start, int end, String word) {
            if (end - start != word.length()) {
                return false;
            }
            for (int i = 0; i < word.length(); i++) {
                if (at(start + i) != word.charAt(i)) {
                    return false;
                }
            }
            return true;
        }

        /** Where a sign is first found from start on; end if it isn't there. */
        int find(int sign, int start, int end) {
            for (int k = start; k < end; k++) {
                if (at(k) == sign) {
                    return k;
                }
            }
            return end;
        }

        boolean isSmallLetter(int k) {
            return at(k) >= 'a' && at(k) <= 'z';
        }
    }

    /** A path with what stands there; it serves as a path alone, too. */
    private static final class Entry {
        final byte[] path;
        int length;
        int kind;
        Row source;
        int start;
        int bytes;

        Entry() {
            path = new byte[MOST_PATH_SIGNS];
        }

        /** Takes signs as the path; false if they are no path. */
        boolean takePath(Row row, int from, int to) {
            length = 0;
            if (to - from > MOST_PATH_SIGNS) {
                return false;
            }
            int names = 1;
            int signs = 0;
            for (int at = from; at < to; at++) {
                int sign = row.at(at);
                boolean isSlash = sign == '/';
                if (isSlash ? signs == 0 : !isNameSign(sign) || signs == MOST_NAME_SIGNS) {
                    return false;
                }
                names += isSlash ? 1 : 0;
                signs = isSlash ? 0 : signs + 1;
                path[length] = (byte) sign;
                length++;
            }
            return signs > 0 && names <= MOST_NAMES;
        }

        private static boolean isNameSign(int sign) {
            return sign >= 'a' && sign <= 'z' || sign >= '0' && sign <= '9';
        }

        /** How this path stands to the first signs of another one: below 0 if it is before them. */
        int order(Entry other, int otherLength) {
            for (int i = 0; i < length && i < otherLength; i++) {
                if (path[i] != other.path[i]) {
                    return path[i] - other.path[i];
                }
            }
            return length - otherLength;
        }

        /** How many signs the path one name shorter has; 0 if there is none. */
        int homeLength() {
            for (int i = length - 1; i > 0; i--) {
                if (path[i] == '/') {
                    return i;
                }
            }
            return 0;
        }

        int names() {
            int names = 1;
            for (int i = 0; i < length; i++) {
                names += path[i] == '/' ? 1 : 0;
            }
            return names;
        }

        boolean isBelow(Entry home) {
            if (length <= home.length || path[home.length] != '/') {
                return false;
            }
            for (int i = 0; i < home.length; i++) {
                if (path[i] != home.path[i]) {
                    return false;
                }
            }
            return true;
        }

        /** Puts another path in the place of the first signs of this one. */
        void rename(Entry to, int cut) {
            int tail = length - cut;
            if (cut < 0 || tail < 0 || to.length + tail > MOST_PATH_SIGNS) {
                return;
            }
            System.arraycopy(path, cut, path, to.length, tail);
            System.arraycopy(to.path, 0, path, 0, to.length);
            length = to.length + tail;
        }

        void copyPath(Entry from) {
            System.arraycopy(from.path, 0, path, 0, from.length);
            length = from.length;
        }

        void becomeDirectory() {
            kind = DIRECTORY;
            source = null;
            start = 0;
            bytes = 0;
        }

        void becomeFile(Row from, int first, int count) {
            kind = FILE;
            source = from;
            start = first;
            bytes = count;
        }

        int byteAt(int k) {
            return source != null && k >= 0 && k < bytes ? source.at(start + k) : NONE;
        }

        boolean hasSameBytes(Entry other) {
            if (bytes != other.bytes) {
                return false;
            }
            for (int k = 0; k < bytes; k++) {
                if (byteAt(k) != other.byteAt(k)) {
                    return false;
                }
            }
            return true;
        }

        void addBytesTo(Row row) {
            if (source != null) {
                row.addAll(source, start, bytes);
            }
        }
    }

    /** Entries in the order of their paths; the objects behind the count wait to be used again. */
    private static final class Tree {
        final Entry[] entries;
        int count;

        Tree() {
            entries = new Entry[MOST_APPLIED_ENTRIES];
            for (int i = 0; i < entries.length; i++) {
                entries[i] = new Entry();
            }
        }

        /** Where the first signs of a path stand; if they don't, -1 less the place where they would. */
        int search(Entry path, int length) {
            int low = 0;
            int high = count;
            while (low < high) {
                int middle = (low + high) / 2;
                int order = entries[middle].order(path, length);
                if (order == 0) {
                    return middle;
                }
                if (order < 0) {
                    low = middle + 1;
                } else {
                    high = middle;
                }
            }
            return -1 - low;
        }

        /** The kind at a place that search answered; 0 if nothing is there. */
        int kindAt(int place) {
            return place >= 0 && place < count ? entries[place].kind : 0;
        }

        /** Whether the path one name shorter is a directory; the root always is. */
        boolean hasHome(Entry path) {
            int length = path.homeLength();
            return length == 0 || kindAt(search(path, length)) == DIRECTORY;
        }

        /** The place behind an entry and all below it: these stand next to one another. */
        int endOf(int place) {
            int end = place + 1;
            while (end < count && entries[end].isBelow(entries[place])) {
                end++;
            }
            return end;
        }

        /** A new entry for a path, at the place where it belongs; null if the tree is full. */
        Entry insert(int place, Entry path) {
            if (place < 0 || place > count || count >= entries.length) {
                return null;
            }
            Entry fresh = entries[count];
            for (int i = count; i > place; i--) {
                entries[i] = entries[i - 1];
            }
            entries[place] = fresh;
            count++;
            fresh.copyPath(path);
            return fresh;
        }

        void cut(int from, int to) {
            int gap = to - from;
            for (int i = to; i < count; i++) {
                Entry kept = entries[i];
                entries[i] = entries[i - gap];
                entries[i - gap] = kept;
            }
            count -= gap;
        }

        void copy(Tree from) {
            count = from.count;
            for (int i = 0; i < count; i++) {
                Entry other = from.entries[i];
                entries[i].copyPath(other);
                if (other.kind == FILE) {
                    entries[i].becomeFile(other.source, other.start, other.bytes);
                } else {
                    entries[i].becomeDirectory();
                }
            }
        }

        void sort() {
            for (int i = 1; i < count; i++) {
                Entry moved = entries[i];
                int place = i;
                while (place > 0 && entries[place - 1].order(moved, moved.length) > 0) {
                    entries[place] = entries[place - 1];
                    place--;
                }
                entries[place] = moved;
            }
        }

        boolean isTooGreat() {
            int bytes = 0;
            for (int i = 0; i < count; i++) {
                bytes += entries[i].bytes;
            }
            return count > MOST_ENTRIES || bytes > MOST_FILE_BYTES;
        }
    }

    /** What makes one tree of another: layers are written and applied here. */
    private static final class Changes {
        private final Entry item;

        Changes() {
            item = new Entry();
        }

        /** An image's tree. Its files' bytes stay where they stand in the yard's journal. */
        void grow(Yard yard, Image image, Tree tree) {
            tree.count = 0;
            for (int i = 0; i < image.layerCount; i++) {
                int place = yard.find(image.layers[i]);
                if (place != NONE) {
                    apply(yard.records, yard.starts[place], yard.lengths[place], tree);
                }
            }
        }

        void write(Tree old, Tree now, Row out) {
            out.size = 0;
            int i = 0;
            int j = 0;
            while (i < old.count || j < now.count) {
                int order = orderOf(old, i, now, j);
                if (order < 0) {
                    if (isGone(old, i, now)) {
                        addItem(out, GONE, old.entries[i]);
                    }
                    i++;
                } else if (order > 0) {
                    addItem(out, now.entries[j].kind, now.entries[j]);
                    j++;
                } else {
                    addItem(out, kindOfBoth(old, i, now, j), now.entries[j]);
                    i++;
                    j++;
                }
            }
        }

        private static int orderOf(Tree old, int i, Tree now, int j) {
            if (i >= old.count) {
                return 1;
            }
            return j >= now.count ? -1 : old.entries[i].order(now.entries[j], now.entries[j].length);
        }

        /** The kind of the item for a path that both trees have; 0 if there is none. */
        private static int kindOfBoth(Tree old, int i, Tree now, int j) {
            Entry before = old.entries[i];
            Entry behind = now.entries[j];
            if (behind.kind == FILE) {
                return before.kind == FILE && before.hasSameBytes(behind) ? 0 : FILE;
            }
            if (before.kind == FILE) {
                return DIRECTORY;
            }
            return isEmptied(old, i, now) ? EMPTIED : 0;
        }

        private static boolean isGone(Tree old, int i, Tree now) {
            Entry path = old.entries[i];
            int home = path.homeLength();
            if (home == 0) {
                return true;
            }
            return now.kindAt(now.search(path, home)) == DIRECTORY
                    && !isEmptied(old, old.search(path, home), now);
        }

        /** Whether a directory of both trees has lost two or more entries, and these were all. */
        private static boolean isEmptied(Tree old, int place, Tree now) {
            if (place < 0) {
                return false;
            }
            Entry home = old.entries[place];
            int lost = 0;
            for (int i = place + 1; i < old.count && old.entries[i].isBelow(home); i++) {
                Entry below = old.entries[i];
                if (below.homeLength() == home.length) {
                    if (now.search(below, below.length) >= 0) {
                        return false;
                    }
                    lost++;
                }
            }
            return lost >= 2;
        }

        private static void addItem(Row out, int kind, Entry entry) {
            if (kind == 0) {
                return;
            }
            out.add(kind);
            out.add(entry.length);
            for (int i = 0; i < entry.length; i++) {
                out.add(entry.path[i]);
            }
            out.addShort(kind == FILE ? entry.bytes : 0);
            if (kind == FILE) {
                entry.addBytesTo(out);
            }
        }

        private void apply(Row row, int start, int length, Tree tree) {
            int end = start + length;
            if (!isLayer(row, start, end)) {
                return;
            }
            int at = start;
            while (at < end) {
                int next = takeItem(row, at, end);
                if (next <= at) {
                    return;
                }
                applyItem(tree);
                at = next;
            }
        }

        private boolean isLayer(Row row, int start, int end) {
            int at = start;
            while (at < end) {
                int next = takeItem(row, at, end);
                if (next <= at) {
                    return false;
                }
                at = next;
            }
            return true;
        }

        /** Takes the item that begins at a place: the place behind it; NONE if there is no item. */
        private int takeItem(Row row, int at, int end) {
            int kind = row.at(at);
            int behind = at + 2 + (row.at(at + 1) & 255);
            if (kind < DIRECTORY || kind > EMPTIED || behind + 2 > end || !item.takePath(row, at + 2, behind)) {
                return NONE;
            }
            int bytes = row.shortAt(behind);
            int next = behind + 2 + bytes;
            if (bytes > (kind == FILE ? MOST_FILE_BYTES : 0) || next > end) {
                return NONE;
            }
            item.becomeFile(row, behind + 2, bytes);
            item.kind = kind;
            return next;
        }

        private void applyItem(Tree tree) {
            int place = tree.search(item, item.length);
            int kind = tree.kindAt(place);
            if (item.kind == GONE || item.kind == EMPTIED) {
                if (item.kind == GONE ? kind != 0 : kind == DIRECTORY) {
                    tree.cut(item.kind == GONE ? place : place + 1, tree.endOf(place));
                }
                return;
            }
            if (!tree.hasHome(item)) {
                return;
            }
            Entry entry = kind == 0 ? tree.insert(-1 - place, item) : tree.entries[place];
            if (entry == null) {
                return;
            }
            if (item.kind == FILE) {
                if (kind == DIRECTORY) {
                    tree.cut(place + 1, tree.endOf(place));
                }
                entry.becomeFile(item.source, item.start, item.bytes);
            } else {
                entry.becomeDirectory();
            }
        }
    }

    private static final class Setting {
        final Row name;
        final Row value;

        Setting() {
            name = new Row(MOST_NAME_SIGNS);
            value = new Row(MOST_VALUE_SIGNS);
        }

        void setName(Row row, int from, int count) {
            name.size = 0;
            name.addAll(row, from, count);
        }

        void setValue(Row row, int from, int count) {
            value.size = 0;
            value.addAll(row, from, count);
        }

        /** How the name stands to signs of a row: below 0 if it is before them. */
        int order(Row row, int from, int to) {
            for (int i = 0; i < name.size && from + i < to; i++) {
                if (name.at(i) != row.at(from + i)) {
                    return name.at(i) - row.at(from + i);
                }
            }
            return name.size - (to - from);
        }
    }

    private static final class Image {
        final long[] layers;
        int layerCount;
        final Setting[] settings;
        int settingCount;

        Image() {
            layers = new long[MOST_LAYERS];
            settings = new Setting[MOST_SETTINGS];
            for (int i = 0; i < settings.length; i++) {
                settings[i] = new Setting();
            }
        }

        void clear() {
            layerCount = 0;
            settingCount = 0;
        }

        boolean isFull() {
            return layerCount >= layers.length;
        }

        void addLayer(long digest) {
            if (!isFull()) {
                layers[layerCount] = digest;
                layerCount++;
            }
        }

        /** Where the setting of a name stands; if it doesn't, -1 less the place where it would. */
        int search(Row row, int from, int to) {
            for (int i = 0; i < settingCount; i++) {
                int order = settings[i].order(row, from, to);
                if (order >= 0) {
                    return order == 0 ? i : -1 - i;
                }
            }
            return -1 - settingCount;
        }

        /** The setting of a name, made if it isn't there; null if it would be a seventh. */
        Setting settingOf(Row row, int from, int to) {
            int place = search(row, from, to);
            if (place >= 0) {
                return settings[place];
            }
            if (settingCount >= settings.length) {
                return null;
            }
            Setting fresh = settings[settingCount];
            for (int i = settingCount; i > -1 - place; i--) {
                settings[i] = settings[i - 1];
            }
            settings[-1 - place] = fresh;
            settingCount++;
            fresh.setName(row, from, to - from);
            return fresh;
        }

        /** Takes an image's bytes; a yard and a message have them only as they were written here. */
        void take(Row row, int start) {
            clear();
            int count = row.at(start + 1);
            for (int i = 0; i < count && i < MOST_LAYERS; i++) {
                addLayer(row.longAt(start + 2 + 8 * i));
            }
            int at = start + 2 + 8 * layerCount;
            count = row.at(at);
            at++;
            for (int i = 0; i < count && i < MOST_SETTINGS; i++) {
                int nameSigns = row.at(at) & 255;
                settings[i].setName(row, at + 1, nameSigns);
                at += 1 + nameSigns;
                int valueSigns = row.at(at) & 255;
                settings[i].setValue(row, at + 1, valueSigns);
                at += 1 + valueSigns;
                settingCount++;
            }
        }

        void write(Row out) {
            out.size = 0;
            out.add(IMAGE_MARK);
            out.add(layerCount);
            for (int i = 0; i < layerCount; i++) {
                out.addLong(layers[i]);
            }
            out.add(settingCount);
            for (int i = 0; i < settingCount; i++) {
                Setting setting = settings[i];
                out.add(setting.name.size);
                out.addAll(setting.name, 0, setting.name.size);
                out.add(setting.value.size);
                out.addAll(setting.value, 0, setting.value.size);
            }
        }
    }

    /**
     * All that a yard keeps is told by its records, and blobs' bytes are held nowhere else. What is
     * written there is learnt by the same methods that learn it from there after a crash.
     */
    private static final class Yard {
        private static final int BLOB_RECORD = 1;
        private static final int TAG_RECORD = 2;
        private static final int UNTAG_RECORD = 3;
        private static final int KEY_RECORD = 4;
        private static final int HEAD = 5;

        final Row records;
        int synced;
        final long[] digests;
        final int[] starts;
        final int[] lengths;
        final boolean[] marked;
        int blobCount;
        final long[] keys;
        final long[] keyLayers;
        int keyCount;
        final long[] tags;
        final boolean[] told;

        Yard() {
            records = new Row(MOST_JOURNAL);
            digests = new long[MOST_BLOBS];
            starts = new int[MOST_BLOBS];
            lengths = new int[MOST_BLOBS];
            marked = new boolean[MOST_BLOBS];
            keys = new long[MOST_KEYS];
            keyLayers = new long[MOST_KEYS];
            tags = new long[TAGS];
            told = new boolean[TAGS];
        }

        int find(long digest) {
            for (int i = 0; i < blobCount; i++) {
                if (digests[i] == digest) {
                    return i;
                }
            }
            return NONE;
        }

        int findKey(long key) {
            for (int i = 0; i < keyCount; i++) {
                if (keys[i] == key) {
                    return i;
                }
            }
            return NONE;
        }

        /** Reads the image that a tag tells. */
        void readImage(int tag, Image image) {
            int place = find(tags[tag]);
            image.clear();
            if (place != NONE) {
                image.take(records, starts[place]);
            }
        }

        /** Keeps bytes as a blob; false if there is no room, or if other bytes have their digest. */
        boolean keep(Row row, int from, int count) {
            int place = find(row.digest(from, count));
            if (place != NONE) {
                return lengths[place] == count && records.isSame(starts[place], row, from, count);
            }
            int start = records.size;
            if (blobCount >= MOST_BLOBS || !openRecord(BLOB_RECORD, count)) {
                return false;
            }
            records.addAll(row, from, count);
            closeRecord(start);
            learnBlob(start + HEAD, count);
            return true;
        }

        boolean tell(int tag, long digest) {
            return told[tag] && tags[tag] == digest || writeTag(tag, digest);
        }

        private boolean writeTag(int tag, long digest) {
            int start = records.size;
            if (!openRecord(TAG_RECORD, 9)) {
                return false;
            }
            records.add(tag);
            records.addLong(digest);
            closeRecord(start);
            learnTag(tag, true, digest);
            return true;
        }

        boolean untell(int tag) {
            int start = records.size;
            if (!openRecord(UNTAG_RECORD, 1)) {
                return false;
            }
            records.add(tag);
            closeRecord(start);
            learnTag(tag, false, 0);
            return true;
        }

        boolean remember(long key, long layer) {
            int place = findKey(key);
            if (place != NONE && keyLayers[place] == layer) {
                return true;
            }
            int start = records.size;
            if (place == NONE && keyCount >= MOST_KEYS || !openRecord(KEY_RECORD, 16)) {
                return false;
            }
            records.addLong(key);
            records.addLong(layer);
            closeRecord(start);
            learnKey(key, layer);
            return true;
        }

        private boolean openRecord(int kind, int count) {
            if (!records.hasRoom(HEAD + count + 1)) {
                return false;
            }
            records.add(kind);
            records.addShort(count);
            records.addShort(count);
            return true;
        }

        private void closeRecord(int start) {
            records.add(sum(start, records.size));
        }

        private int sum(int start, int end) {
            int sum = 0;
            for (int i = start; i < end; i++) {
                sum += records.at(i);
            }
            return sum & 255;
        }

        private void learn(int start) {
            int from = start + HEAD;
            switch (records.at(start)) {
                case BLOB_RECORD:
                    learnBlob(from, records.shortAt(start + 1));
                    break;
                case TAG_RECORD:
                    learnTag(records.at(from), true, records.longAt(from + 1));
                    break;
                case UNTAG_RECORD:
                    learnTag(records.at(from), false, 0);
                    break;
                case KEY_RECORD:
                    learnKey(records.longAt(from), records.longAt(from + 8));
                    break;
                default:
                    break;
            }
        }

        private void learnBlob(int from, int count) {
            if (blobCount < MOST_BLOBS) {
                digests[blobCount] = records.digest(from, count);
                starts[blobCount] = from;
                lengths[blobCount] = count;
                blobCount++;
            }
        }

        private void learnTag(int tag, boolean tells, long digest) {
            if (tag >= 0 && tag < TAGS) {
                told[tag] = tells;
                tags[tag] = digest;
            }
        }

        private void learnKey(long key, long layer) {
            int place = findKey(key);
            if (place != NONE) {
                keyLayers[place] = layer;
            } else if (keyCount < MOST_KEYS) {
                keys[keyCount] = key;
                keyLayers[keyCount] = layer;
                keyCount++;
            }
        }

        /** Comes back after a crash with some bytes behind the synced ones, one of them spoilt. */
        void comeBack(int more, int spoilt) {
            records.size = synced + more;
            if (spoilt >= 0 && spoilt < more) {
                records.cells[synced + spoilt] ^= (byte) 255;
            }
            blobCount = 0;
            keyCount = 0;
            for (int tag = 0; tag < TAGS; tag++) {
                learnTag(tag, false, 0);
            }
            int at = 0;
            while (at < records.size) {
                int end = endOfRecord(at);
                if (end > at) {
                    learn(at);
                    at = end;
                } else {
                    records.size = at;
                }
            }
            synced = records.size;
        }

        /** The place behind the record that begins at a place; NONE if it isn't whole and right. */
        private int endOfRecord(int at) {
            int count = records.shortAt(at + 1);
            int end = at + HEAD + count + 1;
            boolean isRight = end <= records.size && count == records.shortAt(at + 3)
                    && sum(at, end - 1) == records.at(end - 1);
            return isRight ? end : NONE;
        }

        /** Marks, for the sweep that follows, what the tags need. */
        void markTold(Image image) {
            for (int i = 0; i < MOST_BLOBS; i++) {
                marked[i] = false;
            }
            for (int tag = 0; tag < TAGS; tag++) {
                if (told[tag]) {
                    mark(tags[tag]);
                    readImage(tag, image);
                    markLayers(image);
                }
            }
        }

        void markLayers(Image image) {
            for (int i = 0; i < image.layerCount; i++) {
                mark(image.layers[i]);
            }
        }

        private void mark(long digest) {
            int place = find(digest);
            if (place != NONE) {
                marked[place] = true;
            }
        }

        /** Writes the journal anew with the marked blobs alone: how many went. */
        int sweep() {
            int blobs = blobCount;
            blobCount = 0;
            records.size = 0;
            for (int i = 0; i < blobs; i++) {
                if (marked[i]) {
                    moveBlob(i);
                }
            }
            for (int tag = 0; tag < TAGS; tag++) {
                if (told[tag]) {
                    writeTag(tag, tags[tag]);
                }
            }
            int known = keyCount;
            keyCount = 0;
            for (int i = 0; i < known; i++) {
                if (find(keyLayers[i]) != NONE) {
                    remember(keys[i], keyLayers[i]);
                }
            }
            synced = records.size;
            return blobs - blobCount;
        }

        /** Blobs stand in the journal in the order in which they came, so a record only moves ahead. */
        private void moveBlob(int place) {
            int from = starts[place] - HEAD;
            int count = HEAD + lengths[place] + 1;
            System.arraycopy(records.cells, from, records.cells, records.size, count);
            digests[blobCount] = digests[place];
            starts[blobCount] = records.size + HEAD;
            lengths[blobCount] = lengths[place];
            blobCount++;
            records.size += count;
        }
    }

    private static final class Transfer {
        boolean open;
        int message;
        boolean lost;
        int sent;
        boolean done;
        int giver;
        int there;
        boolean taken;
        long wanted;
        final Row offer;
        final Row carried;

        Transfer() {
            offer = new Row(MOST_IMAGE_BYTES);
            carried = new Row(MOST_LAYER_BYTES);
        }

        void begin(int from, Yard yard, int tag, int to) {
            open = true;
            message = OFFER;
            lost = false;
            sent = 0;
            done = false;
            giver = from;
            there = to;
            taken = false;
            offer.size = 0;
            int place = yard.find(yard.tags[tag]);
            if (place != NONE) {
                offer.addAll(yard.records, yard.starts[place], yard.lengths[place]);
            }
        }

        void close(boolean isDone) {
            open = false;
            message = 0;
            lost = false;
            done = isDone;
        }

        boolean isTakenBy(int yard) {
            return open && taken && giver != yard;
        }

        void arrive(Yard from, Yard to, Image image) {
            switch (message) {
                case OFFER:
                    taken = true;
                    answer(to, image);
                    break;
                case WANT:
                    give(from);
                    break;
                case BLOB:
                    if (to.keep(carried, 0, carried.size)) {
                        answer(to, image);
                    } else {
                        close(false);
                    }
                    break;
                default:
                    close(true);
                    break;
            }
        }

        private void answer(Yard to, Image image) {
            image.take(offer, 0);
            for (int i = 0; i < image.layerCount; i++) {
                if (to.find(image.layers[i]) == NONE) {
                    wanted = image.layers[i];
                    message = WANT;
                    return;
                }
            }
            if (to.keep(offer, 0, offer.size) && to.tell(there, offer.digest(0, offer.size))) {
                message = DONE;
            } else {
                close(false);
            }
        }

        private void give(Yard from) {
            int place = from.find(wanted);
            if (place == NONE) {
                close(false);
                return;
            }
            carried.size = 0;
            carried.addAll(from.records, from.starts[place], from.lengths[place]);
            message = BLOB;
            sent++;
        }
    }

    /** Does the commands of a line on a tree. */
    private static final class Shell {
        private static final int MKDIR = 0;
        private static final int RM = 1;
        private static final int PUT = 2;
        private static final int ADD = 3;
        private static final int MOVE = 4;
        private static final int JOIN = 5;

        /** A line has no more than 24 commands that make bytes anew, and only a last one makes over 1000. */
        private static final int MOST_MADE = 26 * MOST_FILE_BYTES;

        private final Row made;
        private final Entry first;
        private final Entry second;
        private int textStart;

        Shell() {
            made = new Row(MOST_MADE);
            first = new Entry();
            second = new Entry();
        }

        int copyLine(Row line, Tree tree) {
            return command(PUT, line, 0, line.size, tree);
        }

        int runLine(Row line, Tree tree) {
            made.size = 0;
            int fault = 0;
            int from = Math.min(4, line.size);
            while (fault == 0 && from <= line.size) {
                int next = line.find(';', from, line.size) + 1;
                int end = next - 1;
                while (from < end && line.at(from) == ' ') {
                    from++;
                }
                while (from < end && line.at(end - 1) == ' ') {
                    end--;
                }
                int word = wordOf(line, from, line.find(' ', from, end));
                fault = command(word, line, from, end, tree);
                from = next;
            }
            return fault;
        }

        private static int wordOf(Row line, int from, int end) {
            if (line.says(from, end, "mkdir")) {
                return MKDIR;
            }
            if (line.says(from, end, "rm")) {
                return RM;
            }
            if (line.says(from, end, "put")) {
                return PUT;
            }
            if (line.says(from, end, "add")) {
                return ADD;
            }
            if (line.says(from, end, "move")) {
                return MOVE;
            }
            return line.says(from, end, "join") ? JOIN : NONE;
        }

        /** Does a command: 0, or the fault. */
        private int command(int word, Row line, int from, int end, Tree tree) {
            if (!takeParts(word, line, from, end)) {
                return WRONG_LINE;
            }
            boolean isDone = false;
            switch (word) {
                case MKDIR:
                    isDone = makeDirectory(tree);
                    break;
                case RM:
                    isDone = remove(tree);
                    break;
                case PUT:
                    isDone = makeFile(tree, line, textStart, end - textStart);
                    break;
                case ADD:
                    isDone = lengthen(tree, line, textStart, end - textStart);
                    break;
                case MOVE:
                    isDone = rename(tree);
                    break;
                default:
                    isDone = join(tree);
                    break;
            }
            if (!isDone) {
                return NOT_DONE;
            }
            return tree.isTooGreat() ? TOO_GREAT : 0;
        }

        /** Takes the paths behind a command's word, and where its text begins; false if it isn't as it must be. */
        private boolean takeParts(int word, Row line, int from, int end) {
            int start = Math.min(line.find(' ', from, end) + 1, end);
            int pathEnd = word == MKDIR || word == RM ? end : line.find(' ', start, end);
            textStart = Math.min(pathEnd + 1, end);
            if (word == NONE || !first.takePath(line, start, pathEnd)) {
                return false;
            }
            return word != MOVE && word != JOIN || second.takePath(line, textStart, end);
        }

        private boolean makeDirectory(Tree tree) {
            int place = tree.search(first, first.length);
            if (place >= 0 || !tree.hasHome(first)) {
                return false;
            }
            Entry directory = tree.insert(-1 - place, first);
            if (directory != null) {
                directory.becomeDirectory();
            }
            return directory != null;
        }

        private boolean remove(Tree tree) {
            int place = tree.search(first, first.length);
            if (place < 0) {
                return false;
            }
            tree.cut(place, tree.endOf(place));
            return true;
        }

        private boolean makeFile(Tree tree, Row row, int start, int count) {
            int place = tree.search(first, first.length);
            if (tree.kindAt(place) == DIRECTORY || !tree.hasHome(first)) {
                return false;
            }
            Entry file = place >= 0 ? tree.entries[place] : tree.insert(-1 - place, first);
            if (file != null) {
                file.becomeFile(row, start, count);
            }
            return file != null;
        }

        private boolean lengthen(Tree tree, Row row, int start, int count) {
            int place = tree.search(first, first.length);
            if (tree.kindAt(place) != FILE) {
                return false;
            }
            if (count > 0) {
                Entry file = tree.entries[place];
                int begin = made.size;
                if (file.source != null) {
                    made.addAll(file.source, file.start, file.bytes);
                }
                made.addAll(row, start, count);
                file.becomeFile(made, begin, made.size - begin);
            }
            return true;
        }

        private boolean join(Tree tree) {
            int place = tree.search(second, second.length);
            if (tree.kindAt(place) != FILE) {
                return false;
            }
            Entry file = tree.entries[place];
            return file.source != null && lengthen(tree, file.source, file.start, file.bytes);
        }

        private boolean rename(Tree tree) {
            int place = tree.search(first, first.length);
            if (place < 0 || tree.search(second, second.length) >= 0
                    || second.isBelow(first) || !tree.hasHome(second)) {
                return false;
            }
            int end = tree.endOf(place);
            int deeper = second.names() - first.names();
            for (int i = place; i < end; i++) {
                if (tree.entries[i].names() + deeper > MOST_NAMES) {
                    return false;
                }
            }
            for (int i = place; i < end; i++) {
                tree.entries[i].rename(second, first.length);
            }
            tree.sort();
            return true;
        }
    }

    /** Goes through a build file; what it tells of the latest build stays until the next one. */
    private static final class Builder {
        int fault;
        int faultLine;
        int steps;
        int hits;
        private int number;
        private int lastNumber;
        private boolean isRun;
        private long key;
        private final Image image;
        private final Row imageBytes;
        private final Row line;
        private final Row layerBytes;
        private final Tree before;
        private final Tree behind;
        private final Changes changes;
        private final Shell shell;

        Builder() {
            faultLine = NONE;
            image = new Image();
            imageBytes = new Row(MOST_IMAGE_BYTES + MOST_SIGNS);
            line = new Row(MOST_LINE_SIGNS);
            layerBytes = new Row(MOST_LAYER_BYTES);
            before = new Tree();
            behind = new Tree();
            changes = new Changes();
            shell = new Shell();
        }

        void start() {
            fault = 0;
            faultLine = NONE;
            steps = 0;
            hits = 0;
            number = NONE;
            lastNumber = NONE;
        }

        private void fail(int kind, int at) {
            if (kind != 0) {
                fault = kind;
                faultLine = at;
            }
        }

        /** Reads the next line: whether it is a step, which is to be done then. */
        boolean readLine(Yard yard, Row text, int from, int end) {
            number++;
            if (end <= from) {
                return false;
            }
            boolean isFirst = lastNumber == NONE;
            lastNumber = number;
            if (isFirst) {
                fail(begin(yard, text, from, end), number);
                return false;
            }
            int wordEnd = text.find(' ', from, end);
            if (text.says(from, wordEnd, "ENV")) {
                fail(set(text, wordEnd + 1, end), number);
                return false;
            }
            isRun = text.says(from, wordEnd, "RUN");
            if (!isRun && !text.says(from, wordEnd, "COPY")) {
                fail(WRONG_LINE, number);
            } else if (!fillIn(text, from, end) || image.isFull()) {
                fail(TOO_GREAT, number);
            } else {
                key = keyOf(text, from, end);
            }
            return fault == 0;
        }

        private int begin(Yard yard, Row text, int from, int end) {
            image.clear();
            if (text.says(from, end, "FROM empty")) {
                return 0;
            }
            int tag = text.at(end - 1) - '0';
            if (!text.says(from, end - 1, "FROM ") || tag < 0 || tag >= TAGS) {
                return WRONG_LINE;
            }
            if (!yard.told[tag]) {
                return NO_IMAGE;
            }
            yard.readImage(tag, image);
            return 0;
        }

        private int set(Row text, int from, int end) {
            int nameEnd = text.find(' ', from, end);
            int valueStart = nameEnd + 1;
            int count = end - valueStart;
            if (nameEnd <= from || nameEnd - from > MOST_NAME_SIGNS || count < 1 || count > MOST_VALUE_SIGNS
                    || text.find(' ', valueStart, end) < end) {
                return WRONG_LINE;
            }
            for (int i = from; i < nameEnd; i++) {
                if (!text.isSmallLetter(i)) {
                    return WRONG_LINE;
                }
            }
            Setting setting = image.settingOf(text, from, nameEnd);
            if (setting == null) {
                return TOO_GREAT;
            }
            setting.setValue(text, valueStart, count);
            return 0;
        }

        /** Puts the settings into a line; false if it has too many signs then. */
        private boolean fillIn(Row text, int from, int end) {
            line.size = 0;
            int at = from;
            while (at < end) {
                int start = at;
                at++;
                if (text.at(start) != '$') {
                    if (!line.hasRoom(1)) {
                        return false;
                    }
                    line.add(text.at(start));
                    continue;
                }
                while (at < end && at - start <= MOST_NAME_SIGNS && text.isSmallLetter(at)) {
                    at++;
                }
                int place = image.search(text, start + 1, at);
                if (place >= 0) {
                    Row value = image.settings[place].value;
                    if (!line.hasRoom(value.size)) {
                        return false;
                    }
                    line.addAll(value, 0, value.size);
                }
            }
            return true;
        }

        private long keyOf(Row text, int from, int end) {
            image.write(imageBytes);
            imageBytes.addAll(text, from, end - from);
            return imageBytes.digest(0, imageBytes.size);
        }

        /** Does the step that was read. */
        void doStep(Yard yard) {
            int known = yard.findKey(key);
            if (known != NONE && yard.find(yard.keyLayers[known]) != NONE) {
                image.addLayer(yard.keyLayers[known]);
                steps++;
                hits++;
                return;
            }
            changes.grow(yard, image, before);
            if (before.isTooGreat()) {
                fail(TOO_GREAT, number);
                return;
            }
            behind.copy(before);
            fail(isRun ? shell.runLine(line, behind) : shell.copyLine(line, behind), number);
            if (fault == 0) {
                fail(keepLayer(yard), number);
            }
        }

        private int keepLayer(Yard yard) {
            changes.write(before, behind, layerBytes);
            long digest = layerBytes.digest(0, layerBytes.size);
            if (!yard.keep(layerBytes, 0, layerBytes.size) || !yard.remember(key, digest)) {
                return NO_ROOM;
            }
            image.addLayer(digest);
            steps++;
            return 0;
        }

        /** Keeps the image, if there was no fault: 0, or the fault's kind. */
        int finish(Yard yard, int tag) {
            if (fault == 0 && lastNumber == NONE) {
                fail(WRONG_LINE, 0);
            }
            if (fault == 0) {
                image.write(imageBytes);
                boolean isKept = yard.keep(imageBytes, 0, imageBytes.size)
                        && yard.tell(tag, imageBytes.digest(0, imageBytes.size));
                fail(isKept ? 0 : NO_ROOM, lastNumber);
            }
            return fault;
        }
    }
}
