/**
 * A reader, by layers, of a small binary format: THE FILE with its head, its ENTRIES and its CHUNKS.
 * Every row that a call needs is made with the object, so that no call makes anything.
 */
public final class ChunkLayers {

    public static final int NONE = -1, BAD = -2, STATE = -3, FULL = -4;
    /** There is no such number. */
    public static final long NO = Long.MIN_VALUE;

    private static final int NO_SUCH = -5, NOTHING = -11, CAST = -12, PLACE = -13, SIZE = -14;
    private static final int TEXT_FAULT = -10, FILE_FAULT = -100, ROW_ENDS = 1000;

    private static final int MOST_BYTES = 120, MOST_SIGNS = 100, MOST_SEEN = 5, MOST_PLAN = 10, MOST_BOOK = 8;
    private static final int MOST_ENTRIES = 6, MOST_IN_GROUP = 6, MOST_IN_ROW = 20, MOST_ITEMS = 60, TAPES = 6;
    private static final int FIRST_MAGIC = 67, SECOND_MAGIC = 70, VERSIONS = 3, HEAD = 4, ENTRY = 3;
    private static final int FIRST_CHUNK_LAYER = 2, DEEPEST_LAYER = 5, DEEPEST_SET = 3;

    private static final int NUMBER = 110, WORDS = 115, RAW = 114, GROUP = 103;
    private static final int[] TYPE_OF_SORT = {NUMBER, WORDS, RAW, GROUP};

    private static final int MAGIC_FAULT = 1, VERSION_FAULT = 2, SHORT_FAULT = 3, CHECK_FAULT = 4;
    private static final int TABLE_FAULT = 5, TYPE_FAULT = 6, VALUE_FAULT = 7, DEEP_FAULT = 8, WITHIN = 9;

    private static final int HOLDS_NOTHING = -1, BYTES = 0, SHORTS = 1, INTS = 2, LONGS = 3, BOOLEANS = 4;

    private final State now = new State();
    private final State imaged = new State();
    private boolean imageIsTaken;
    private final Bytes text = new Bytes(MOST_SIGNS);
    private final Bytes trial = new Bytes(MOST_BYTES);
    private final FileReader reader = new FileReader();
    private final TextReader teller = new TextReader();
    private final FileWriter writer = new FileWriter();
    private final Shower shower = new Shower();
    private final Tape[] tapes = new Tape[TAPES];

    public ChunkLayers() {
        for (int t = 0; t < tapes.length; t++) {
            tapes[t] = new Tape();
        }
    }

    // ---- the file

    public int put(int v) {
        if (!isByte(v)) {
            return BAD;
        }
        return now.file.append(v) ? now.file.size() : FULL;
    }

    public int set(int place, int v) {
        if (!now.file.has(place)) {
            return NONE;
        }
        if (!isByte(v)) {
            return BAD;
        }
        int was = now.file.byteAt(place);
        now.file.replace(place, v);
        return was;
    }

    public int cut(int n) {
        int had = now.file.size();
        if (n < 0 || n > had) {
            return BAD;
        }
        now.file.endBehind(n);
        return had;
    }

    public int at(int place) {
        return now.file.has(place) ? now.file.byteAt(place) : NONE;
    }

    public int check(int version, int place, int n) {
        if (!isVersion(version)) {
            return NONE;
        }
        if (place < 0 || n < 0 || (long) place + n > now.file.size()) {
            return BAD;
        }
        return now.file.checkBy(version, place, n);
    }

    // ---- texts

    public int feed(int sign) {
        if (sign < 0 || sign > 127) {
            return BAD;
        }
        return text.append(sign) ? text.size() : FULL;
    }

    public int write(int version) {
        if (!isVersion(version)) {
            return NONE;
        }
        if (!teller.isWhole(text)) {
            text.endBehind(0);
            return TEXT_FAULT - teller.faultPlace();
        }
        Bytes written = writer.written(teller.things(), version);
        if (written.size() > MOST_BYTES) {
            return FULL;
        }
        text.endBehind(0);
        now.file.copyFrom(written);
        return now.file.size();
    }

    // ---- reading

    public int read() {
        return reader.isWhole(now.file) ? reader.things().topCount() : FILE_FAULT - reader.faults().deepest();
    }

    public int fault(int k, int what) {
        if (k < 0 || what < 0 || what > 2) {
            return NONE;
        }
        return reader.isWhole(now.file) ? NO_SUCH : reader.faults().told(k, what);
    }

    public int recovered() {
        return reader.recoveredBits(now.file);
    }

    public long thing(int k, int what) {
        int t = thingOfFile(k);
        if (t < 0) {
            return NO;
        }
        switch (what) {
            case 0:
                return reader.things().typeOf(t);
            case 1:
                return reader.things().worthOf(t);
            case 2:
                return reader.things().spanOf(t);
            case 3:
                return reader.things().depthOf(t);
            default:
                return NO;
        }
    }

    public int shown(int k, int i) {
        int t = thingOfFile(k);
        if (t < 0) {
            return NONE;
        }
        Bytes signs = shower.signsOf(reader.things(), t);
        return signs.has(i) ? signs.byteAt(i) : NONE;
    }

    // ---- what would be

    public int mends(int place, int what) {
        if (!now.file.has(place) || what < 0 || what > 1) {
            return NONE;
        }
        int many = 0;
        int least = NO_SUCH;
        trial.copyFrom(now.file);
        for (int v = 255; v >= 0; v--) {
            trial.replace(place, v);
            if (reader.isWhole(trial)) {
                many++;
                least = v;
            }
        }
        return what == 0 ? many : least;
    }

    public int flips() {
        int faulty = 0;
        trial.copyFrom(now.file);
        for (int place = 0; place < trial.size(); place++) {
            int was = trial.byteAt(place);
            for (int bit = 0; bit < 8; bit++) {
                trial.replace(place, was ^ (1 << bit));
                if (!reader.isWhole(trial)) {
                    faulty++;
                }
            }
            trial.replace(place, was);
        }
        return faulty;
    }

    public int as(int version, int what) {
        if (!isVersion(version) || what < 0 || what > 1) {
            return NONE;
        }
        if (!reader.isWhole(now.file)) {
            return NO_SUCH;
        }
        return what == 0 ? writer.written(reader.things(), version).size() : 1;
    }

    public int see(int place, int v) {
        return rowComes(now.seen, place, v);
    }

    public int fits(int version) {
        if (!isVersion(version)) {
            return NONE;
        }
        if (!reader.isWhole(now.file)) {
            return NO_SUCH;
        }
        Bytes written = writer.written(reader.things(), version);
        return now.seen.firstOtherwise(written) < 0 ? 1 : 0;
    }

    public long odds(int part) {
        int bits = now.file.size() * 8;
        return bits == 0 ? NO : partOfFraction(flips(), bits, part);
    }

    public long mean(int part) {
        if (!reader.isWhole(now.file)) {
            return NO;
        }
        Things things = reader.things();
        long together = 0;
        int many = 0;
        for (int t = 0; t < things.size(); t++) {
            if (things.typeOf(t) == NUMBER) {
                together += things.worthOf(t);
                many++;
            }
        }
        return partOfFraction(together, many, part);
    }

    // ---- plans, books

    public int plan(int what, int n) {
        if (what == -1) {
            now.plan.becomeEmpty();
            return 0;
        }
        if (what < 0 || what > 2) {
            return NONE;
        }
        if (!isPlaceToTell(n)) {
            return BAD;
        }
        return now.plan.append(what, n) ? now.plan.size() : FULL;
    }

    public int ends(int what) {
        if (what < 0 || what > 1) {
            return NONE;
        }
        trial.copyFrom(now.file);
        now.plan.goOver(trial);
        if (what == 1) {
            return Integer.bitCount(reader.recoveredBits(trial));
        }
        return reader.isWhole(trial) ? 0 : reader.faults().deepest();
    }

    public int book(int place, int v) {
        return rowComes(now.book, place, v);
    }

    public int looked() {
        int row = now.book.firstOtherwise(now.file);
        return row < 0 ? NO_SUCH : row;
    }

    // ---- judging, the image, tapes

    public int judge(int tape, int i) {
        Tape row = tapeOf(tape);
        if (row == null) {
            return NONE;
        }
        if (!row.holdsNothing() && row.sort() != BYTES) {
            return CAST;
        }
        for (int k = 0; k < now.file.size(); k++) {
            // i + k cannot run over where the row has i, and where it has not, k is still 0
            if (!row.has(i) || !row.has(i + k)) {
                return ROW_ENDS + k;
            }
            if (row.itemAt(i + k) != (byte) now.file.byteAt(k)) {
                return k;
            }
        }
        return NO_SUCH;
    }

    public int image() {
        imaged.copyFrom(now);
        imageIsTaken = true;
        return imaged.file.size();
    }

    public int undo() {
        if (!imageIsTaken) {
            return STATE;
        }
        now.copyFrom(imaged);
        return now.file.size();
    }

    public int taken(int k, int sort) {
        if (sort < 0 || sort >= TYPE_OF_SORT.length) {
            return BAD;
        }
        int t = thingOfFile(k);
        if (t < 0) {
            return NOTHING;
        }
        int type = reader.things().typeOf(t);
        return type == TYPE_OF_SORT[sort] ? type : CAST;
    }

    public int count(int what) {
        switch (what) {
            case 0:
                return now.file.size();
            case 1:
                return now.seen.size();
            case 2:
                return now.plan.size();
            case 3:
                return now.book.size();
            case 4:
                return text.size();
            default:
                return BAD;
        }
    }

    public int tape(int tape, int sort, int n) {
        Tape row = tapeOf(tape);
        if (row == null) {
            return NONE;
        }
        if (sort == HOLDS_NOTHING) {
            row.become(HOLDS_NOTHING, 0);
            return 1;
        }
        if (sort < BYTES || sort > BOOLEANS || n > MOST_ITEMS) {
            return BAD;
        }
        if (n < 0) {
            return SIZE;
        }
        row.become(sort, n);
        return 1;
    }

    public int item(int tape, int i, long v) {
        Tape row = tapeOf(tape);
        if (row == null) {
            return NONE;
        }
        if (row.holdsNothing()) {
            return NOTHING;
        }
        if (!row.has(i)) {
            return PLACE;
        }
        row.keep(i, v);
        return 1;
    }

    public long peek(int tape, int i) {
        Tape row = tapeOf(tape);
        return row != null && row.has(i) ? row.itemAt(i) : NO;
    }

    public int shift(int tape, int i, int other, int j, int n) {
        Tape from = tapeOf(tape);
        Tape to = tapeOf(other);
        if (from == null || to == null) {
            return NONE;
        }
        if (from.holdsNothing() || to.holdsNothing()) {
            return NOTHING;
        }
        if (from.sort() != to.sort()) {
            return CAST;
        }
        if (!from.reaches(i, n) || !to.reaches(j, n)) {
            return PLACE;
        }
        to.copyFrom(from, i, j, n);
        return n;
    }

    // ---- what several calls share

    private static boolean isByte(int v) {
        return v >= 0 && v <= 255;
    }

    private static boolean isVersion(int version) {
        return version >= 1 && version <= VERSIONS;
    }

    /** Rows are told for any FILE that there can be, not just for the one that is there. */
    private static boolean isPlaceToTell(int place) {
        return place >= 0 && place < MOST_BYTES;
    }

    private static int rowComes(Rows rows, int place, int v) {
        if (place == -1) {
            rows.becomeEmpty();
            return 0;
        }
        if (!isPlaceToTell(place) || !isByte(v)) {
            return BAD;
        }
        return rows.append(place, v) ? rows.size() : FULL;
    }

    private static long partOfFraction(long above, long below, int part) {
        if (below <= 0 || part < 0 || part > 1) {
            return NO;
        }
        long measure = commonMeasure(Math.abs(above), below);
        if (measure == 0) {
            return NO;
        }
        return part == 0 ? above / measure : below / measure;
    }

    private static long commonMeasure(long a, long b) {
        // each two steps halve the greater one, so that 63 bits are done in 126 steps
        for (int step = 0; step < 200 && b != 0; step++) {
            long rest = a % b;
            a = b;
            b = rest;
        }
        return a;
    }

    private Tape tapeOf(int tape) {
        return tape >= 0 && tape < tapes.length ? tapes[tape] : null;
    }

    /** Where THING k stands among all things of THE FILE; -1: THE FILE has a FAULT, or there is none such. */
    private int thingOfFile(int k) {
        return reader.isWhole(now.file) ? reader.things().topAt(k) : -1;
    }

    /** A row of bytes that never grows beyond what it is made for. */
    private static final class Bytes {
        private final int[] cells;
        private int size;

        Bytes(int most) {
            cells = new int[Math.max(most, 0)];
        }

        int size() {
            return size;
        }

        boolean has(int place) {
            return place >= 0 && place < size;
        }

        /** -1 where there is no such place: that is no byte, and equal to none. */
        int byteAt(int place) {
            return place >= 0 && place < size ? cells[place] : -1;
        }

        boolean append(int v) {
            if (size >= cells.length) {
                return false;
            }
            cells[size] = v;
            size++;
            return true;
        }

        void replace(int place, int v) {
            if (has(place)) {
                cells[place] = v;
            }
        }

        void endBehind(int n) {
            if (n >= 0 && n < size) {
                size = n;
            }
        }

        void copyFrom(Bytes other) {
            size = Math.min(other.size, cells.length);
            System.arraycopy(other.cells, 0, cells, 0, size);
        }

        int checkBy(int version, int from, int n) {
            int check = 0;
            for (int k = 0; k < n; k++) {
                int v = byteAt(from + k);
                if (version == 1) {
                    check += v;
                } else if (version == 2) {
                    check ^= v;
                } else {
                    check = check * 31 + v;
                }
                check &= 255;
            }
            return check;
        }
    }

    /** Rows of two numbers told by hand: of SEEN, of the PLAN, of the BOOK. */
    private static final class Rows {
        private final int[] firsts;
        private final int[] seconds;
        private int size;

        Rows(int most) {
            firsts = new int[Math.max(most, 0)];
            seconds = new int[Math.max(most, 0)];
        }

        int size() {
            return size;
        }

        void becomeEmpty() {
            size = 0;
        }

        boolean append(int first, int second) {
            if (size >= firsts.length || size >= seconds.length) {
                return false;
            }
            firsts[size] = first;
            seconds[size] = second;
            size++;
            return true;
        }

        void copyFrom(Rows other) {
            becomeEmpty();
            for (int k = 0; k < other.size; k++) {
                append(other.firsts[k], other.seconds[k]);
            }
        }

        /** The number of the first row, place and byte, that is not so in these bytes; -1: all are so. */
        int firstOtherwise(Bytes bytes) {
            for (int k = 0; k < size; k++) {
                if (bytes.byteAt(firsts[k]) != seconds[k]) {
                    return k;
                }
            }
            return -1;
        }

        /** These rows, what goes and a number, go over bytes one after the other. */
        void goOver(Bytes bytes) {
            for (int k = 0; k < size; k++) {
                int n = seconds[k];
                if (firsts[k] == 2) {
                    bytes.endBehind(n);
                } else if (bytes.has(n)) {
                    bytes.replace(n, firsts[k] == 1 ? 0 : 255 - bytes.byteAt(n));
                }
            }
        }
    }

    /** What THE IMAGE keeps. */
    private static final class State {
        private final Bytes file = new Bytes(MOST_BYTES);
        private final Rows seen = new Rows(MOST_SEEN);
        private final Rows plan = new Rows(MOST_PLAN);
        private final Rows book = new Rows(MOST_BOOK);

        void copyFrom(State other) {
            file.copyFrom(other.file);
            seen.copyFrom(other.seen);
            plan.copyFrom(other.plan);
            book.copyFrom(other.book);
        }
    }

    /** THE FAULT and its CAUSES. They come as they go up, the deepest first. */
    private static final class Faults {
        private final int[] whats = new int[DEEPEST_LAYER + 1];
        private final int[] layers = new int[DEEPEST_LAYER + 1];
        private final int[] places = new int[DEEPEST_LAYER + 1];
        private int size;

        void becomeEmpty() {
            size = 0;
        }

        /** False always: so the reader says in one line that what it has READ is not whole. */
        boolean raise(int what, int layer, int place) {
            if (size < whats.length) {
                whats[size] = what;
                layers[size] = layer;
                places[size] = place;
                size++;
            }
            return false;
        }

        int deepest() {
            return size > 0 ? whats[0] : 0;
        }

        /** Of the k-th from LAYER 0 on. */
        int told(int k, int what) {
            int f = size - 1 - k;
            if (f < 0 || f >= size) {
                return NO_SUCH;
            }
            if (what == 0) {
                return whats[f];
            }
            return what == 1 ? layers[f] : places[f];
        }
    }

    /** THINGS, each GROUP ahead of those in it, so that what a thing comes to is a run of them. */
    private static final class Things {
        /** 120 bytes hold fewer: a CHUNK takes at least three. */
        private static final int MOST = 40;
        private final int[] types = new int[MOST];
        private final int[] worths = new int[MOST];
        private final int[] levels = new int[MOST];
        private final int[] spans = new int[MOST];
        private final int[] starts = new int[MOST];
        private final Bytes contents = new Bytes(MOST_BYTES);
        private int size;

        int size() {
            return size;
        }

        void becomeEmpty() {
            size = 0;
            contents.endBehind(0);
        }

        private boolean has(int t) {
            return t >= 0 && t < size;
        }

        /** Its number; one that holds bytes or things gets its worth as they come. */
        int append(int type, int level) {
            if (size >= MOST) {
                return -1;
            }
            types[size] = type;
            worths[size] = 0;
            levels[size] = level;
            spans[size] = 1;
            starts[size] = contents.size();
            size++;
            return size - 1;
        }

        void becomeWorth(int t, int worth) {
            if (has(t)) {
                worths[t] = worth;
            }
        }

        void takeByte(int t, int v) {
            if (has(t) && contents.append(v)) {
                worths[t]++;
            }
        }

        /** All that has come behind a GROUP since is in it. */
        void closeGroup(int t, int many) {
            if (has(t)) {
                worths[t] = many;
                spans[t] = size - t;
            }
        }

        int typeOf(int t) {
            return has(t) ? types[t] : 0;
        }

        int worthOf(int t) {
            return has(t) ? worths[t] : 0;
        }

        int spanOf(int t) {
            return has(t) ? spans[t] : 1;
        }

        int contentOf(int t, int k) {
            return has(t) ? contents.byteAt(starts[t] + k) : 0;
        }

        int depthOf(int t) {
            int depth = 0;
            for (int u = t; has(u) && u < t + spanOf(t); u++) {
                if (types[u] == GROUP) {
                    depth = Math.max(depth, levels[u] - levels[t] + 1);
                }
            }
            return depth;
        }

        int topCount() {
            int many = 0;
            for (int t = 0; t < size; t++) {
                if (levels[t] == 0) {
                    many++;
                }
            }
            return many;
        }

        /** Where the k-th thing that is in no GROUP stands; -1: there is none such. */
        int topAt(int k) {
            int rest = k;
            for (int t = 0; t < size && rest >= 0; t++) {
                if (levels[t] == 0) {
                    if (rest == 0) {
                        return t;
                    }
                    rest--;
                }
            }
            return -1;
        }
    }

    /** READS THE FILE, layer by layer. */
    private static final class FileReader {
        private static final int EVERY_ENTRY = -1;
        private final Faults faults = new Faults();
        private final Things things = new Things();
        private Bytes source = new Bytes(0);
        private int version;
        private int entries;

        Faults faults() {
            return faults;
        }

        Things things() {
            return things;
        }

        /** Whether bytes are READ without FAULT; the things are theirs then, or else the faults. */
        boolean isWhole(Bytes bytes) {
            begin(bytes);
            if (!headIsWhole()) {
                return false;
            }
            for (int e = 0; e < entries; e++) {
                if (!entryIsSound(e, EVERY_ENTRY)) {
                    faults.raise(TABLE_FAULT, 1, entryPlace(e) + 1);
                    return faults.raise(WITHIN, 0, 0);
                }
            }
            for (int e = 0; e < entries; e++) {
                if (!chunkIsWhole(entryPlace(e), entryPlace(e) + 2, offsetOf(e), FIRST_CHUNK_LAYER)) {
                    faults.raise(WITHIN, 1, entryPlace(e));
                    return faults.raise(WITHIN, 0, 0);
                }
            }
            return true;
        }

        int recoveredBits(Bytes bytes) {
            begin(bytes);
            if (!headIsWhole()) {
                return 0;
            }
            int sound = 0;
            int whole = 0;
            for (int e = 0; e < entries; e++) {
                if (!entryIsSound(e, sound)) {
                    continue;
                }
                sound |= 1 << e;
                if (chunkIsWhole(entryPlace(e), entryPlace(e) + 2, offsetOf(e), FIRST_CHUNK_LAYER)) {
                    whole |= 1 << e;
                }
            }
            return whole;
        }

        private void begin(Bytes bytes) {
            source = bytes;
            faults.becomeEmpty();
            things.becomeEmpty();
        }

        private boolean headIsWhole() {
            return isMagic(0, FIRST_MAGIC) && isMagic(1, SECOND_MAGIC) && versionIsKnown() && tableIsThere();
        }

        private boolean isMagic(int place, int due) {
            return isThere(place) && (source.byteAt(place) == due || faults.raise(MAGIC_FAULT, 0, place));
        }

        private boolean versionIsKnown() {
            version = source.byteAt(2);
            return isThere(2) && (isVersion(version) || faults.raise(VERSION_FAULT, 0, 2));
        }

        private boolean tableIsThere() {
            entries = source.byteAt(3);
            return isThere(3) && (entries <= MOST_ENTRIES || faults.raise(TABLE_FAULT, 0, 3))
                && isThere(tableEnd() - 1);
        }

        private boolean isThere(int place) {
            return source.has(place) || faults.raise(SHORT_FAULT, 0, source.size());
        }

        private int entryPlace(int entry) {
            return HEAD + ENTRY * entry;
        }

        private int tableEnd() {
            return entryPlace(entries);
        }

        private int offsetOf(int entry) {
            return source.byteAt(entryPlace(entry) + 1);
        }

        private int endOf(int entry) {
            return offsetOf(entry) + source.byteAt(entryPlace(entry) + 2) + 1;
        }

        /** Whether LAYER 1 has nothing against an ENTRY, looking at those earlier ones whose bits are set. */
        private boolean entryIsSound(int entry, int earlier) {
            int offset = offsetOf(entry);
            int end = endOf(entry);
            boolean sound = offset >= tableEnd() && end <= source.size();
            for (int e = 0; e < entry && sound; e++) {
                boolean looksAtIt = ((earlier >> e) & 1) == 1;
                sound = !looksAtIt || end <= offsetOf(e) || endOf(e) <= offset;
            }
            return sound;
        }

        private boolean chunkIsWhole(int typePlace, int lengthPlace, int payload, int layer) {
            int length = source.byteAt(lengthPlace);
            int end = payload + length;
            if (source.checkBy(version, payload, length) != source.byteAt(end)) {
                return faults.raise(CHECK_FAULT, layer, end);
            }
            int type = source.byteAt(typePlace);
            switch (type) {
                case NUMBER:
                    return length >= 1 && length <= 4
                        ? takesNumber(payload, end, layer) : faults.raise(VALUE_FAULT, layer, lengthPlace);
                case WORDS:
                case RAW:
                    return length <= MOST_IN_ROW
                        ? takesRow(type, payload, end, layer) : faults.raise(VALUE_FAULT, layer, lengthPlace);
                case GROUP:
                    return layer < DEEPEST_LAYER
                        ? groupIsWhole(payload, end, layer) : faults.raise(DEEP_FAULT, layer, typePlace);
                default:
                    return faults.raise(TYPE_FAULT, layer, typePlace);
            }
        }

        private boolean takesNumber(int payload, int end, int layer) {
            int worth = source.byteAt(payload) > 127 ? -1 : 0;
            for (int place = payload; place < end; place++) {
                worth = (worth << 8) | source.byteAt(place);
            }
            things.becomeWorth(things.append(NUMBER, layer - FIRST_CHUNK_LAYER), worth);
            return true;
        }

        private boolean takesRow(int type, int payload, int end, int layer) {
            int t = things.append(type, layer - FIRST_CHUNK_LAYER);
            for (int place = payload; place < end; place++) {
                int v = source.byteAt(place);
                if (type == WORDS && (v < 32 || v > 126)) {
                    return faults.raise(VALUE_FAULT, layer, place);
                }
                things.takeByte(t, v);
            }
            return true;
        }

        private boolean groupIsWhole(int payload, int end, int layer) {
            int t = things.append(GROUP, layer - FIRST_CHUNK_LAYER);
            int place = payload;
            int many = 0;
            for (; many < MOST_IN_GROUP && place < end; many++) {
                // without a LENGTH in the PAYLOAD its CHECK is taken for one: too far already, whatever it is
                int next = place + 3 + source.byteAt(place + 1);
                if (next > end) {
                    faults.raise(SHORT_FAULT, layer + 1, end);
                    return faults.raise(WITHIN, layer, payload);
                }
                if (!chunkIsWhole(place, place + 1, place + 2, layer + 1)) {
                    return faults.raise(WITHIN, layer, payload);
                }
                place = next;
            }
            if (place < end) {
                faults.raise(VALUE_FAULT, layer + 1, place);
                return faults.raise(WITHIN, layer, payload);
            }
            things.closeGroup(t, many);
            return true;
        }
    }

    /** Reads THE TEXT. */
    private static final class TextReader {
        private final Things things = new Things();
        private Bytes source = new Bytes(0);
        private int place;
        /** That at the place; -1 at the end. */
        private int sign;
        private int faultPlace;

        Things things() {
            return things;
        }

        int faultPlace() {
            return faultPlace;
        }

        /** Whether a text has no FAULT; the things are its own then. */
        boolean isWhole(Bytes text) {
            source = text;
            goTo(0);
            things.becomeEmpty();
            boolean isOver = false;
            for (int many = 1; many <= MOST_ENTRIES && !isOver; many++) {
                if (!takesThing(0)) {
                    return false;
                }
                isOver = place >= source.size();
                if (!isOver && (many == MOST_ENTRIES || !goesOver(';'))) {
                    return isFaulty(place);
                }
            }
            return true;
        }

        /** False always: so each reading function says in one line that it has found the FAULT. */
        private boolean isFaulty(int at) {
            faultPlace = at;
            return false;
        }

        private void goTo(int newPlace) {
            place = newPlace;
            sign = source.byteAt(newPlace);
        }

        private boolean goesOver(int due) {
            if (sign != due) {
                return false;
            }
            goTo(place + 1);
            return true;
        }

        private boolean isLetter() {
            return sign >= 'a' && sign <= 'z';
        }

        private boolean isDigit() {
            return sign >= '0' && sign <= '9';
        }

        /** Sets are those that the thing stands in. */
        private boolean takesThing(int sets) {
            int start = place;
            for (int k = 0; k < MOST_SIGNS && isLetter(); k++) {
                goTo(place + 1);
            }
            if (isWord(start, 'n', 'u', 'm')) {
                return takesNumber(sets);
            }
            if (isWord(start, 's', 't', 'r')) {
                return takesWords(sets);
            }
            if (isWord(start, 'r', 'a', 'w')) {
                return takesRaw(sets);
            }
            if (isWord(start, 's', 'e', 't') && sets < DEEPEST_SET) {
                return takesSet(sets);
            }
            return isFaulty(start);
        }

        /** Whether the signs from start up to the place are these three. */
        private boolean isWord(int start, int first, int second, int third) {
            return place == start + 3 && source.byteAt(start) == first
                && source.byteAt(start + 1) == second && source.byteAt(start + 2) == third;
        }

        private boolean takesNumber(int level) {
            if (!goesOver(' ')) {
                return isFaulty(place);
            }
            boolean isBelow = goesOver('-');
            if (!isDigit()) {
                return isFaulty(place);
            }
            int worth = 0;
            for (int k = 0; k < 9 && isDigit(); k++) {
                worth = worth * 10 + sign - '0';
                goTo(place + 1);
            }
            things.becomeWorth(things.append(NUMBER, level), isBelow ? -worth : worth);
            return true;
        }

        private boolean takesWords(int level) {
            if (!goesOver(' ')) {
                return isFaulty(place);
            }
            int t = things.append(WORDS, level);
            for (int k = 0; k < MOST_IN_ROW && isLetter(); k++) {
                things.takeByte(t, sign);
                goTo(place + 1);
            }
            return true;
        }

        private boolean takesRaw(int level) {
            if (!goesOver(' ')) {
                return isFaulty(place);
            }
            int t = things.append(RAW, level);
            boolean another = isDigit();
            for (int k = 1; k <= MOST_IN_ROW && another; k++) {
                if (!takesByte(t)) {
                    return false;
                }
                // a comma behind the last that there may be is left: nothing begins with it there
                another = k < MOST_IN_ROW && goesOver(',');
            }
            return true;
        }

        private boolean takesByte(int t) {
            if (!isDigit()) {
                return isFaulty(place);
            }
            int v = 0;
            for (int k = 0; k < 3 && isDigit(); k++) {
                v = v * 10 + sign - '0';
                if (v > 255) {
                    return isFaulty(place);
                }
                goTo(place + 1);
            }
            things.takeByte(t, v);
            return true;
        }

        private boolean takesSet(int sets) {
            if (!goesOver('(')) {
                return isFaulty(place);
            }
            int t = things.append(GROUP, sets);
            boolean isOver = goesOver(')');
            int many = 0;
            for (; many < MOST_IN_GROUP && !isOver; many++) {
                if (!takesThing(sets + 1)) {
                    return false;
                }
                isOver = goesOver(')');
                if (!isOver && (many + 1 == MOST_IN_GROUP || !goesOver(';'))) {
                    return isFaulty(place);
                }
            }
            things.closeGroup(t, many);
            return true;
        }
    }

    /** Says how THINGS are WRITTEN. */
    private static final class FileWriter {
        /** More than any THINGS come to: so the caller sees what is more than THE FILE holds. */
        private final Bytes out = new Bytes(2 * MOST_BYTES);
        private int version;

        Bytes written(Things things, int by) {
            version = by;
            out.endBehind(0);
            out.append(FIRST_MAGIC);
            out.append(SECOND_MAGIC);
            out.append(version);
            out.append(things.topCount());
            for (int t = 0; t < things.size(); t += Math.max(things.spanOf(t), 1)) {
                out.append(things.typeOf(t));
                out.append(0);
                out.append(0);
            }
            int entry = HEAD;
            for (int t = 0; t < things.size(); t += Math.max(things.spanOf(t), 1)) {
                out.replace(entry + 1, out.size());
                writePayload(things, t, entry + 2, 0);
                entry += ENTRY;
            }
            return out;
        }

        /** The PAYLOAD and its CHECK; the LENGTH, known only then, comes to its place. */
        private void writePayload(Things things, int t, int lengthPlace, int groups) {
            int from = out.size();
            if (things.typeOf(t) == NUMBER) {
                writeNumber(things.worthOf(t));
            } else if (things.typeOf(t) == GROUP) {
                writeGroup(things, t, groups);
            } else {
                for (int k = 0; k < things.worthOf(t); k++) {
                    out.append(things.contentOf(t, k));
                }
            }
            int length = out.size() - from;
            out.replace(lengthPlace, length);
            out.append(out.checkBy(version, from, length));
        }

        private void writeGroup(Things things, int t, int groups) {
            if (groups >= DEEPEST_SET) {
                return;
            }
            for (int u = t + 1; u < t + things.spanOf(t); u += Math.max(things.spanOf(u), 1)) {
                out.append(things.typeOf(u));
                out.append(0);
                writePayload(things, u, out.size() - 1, groups + 1);
            }
        }

        private static boolean isWholeBy(int worth, int bytes) {
            int sign = worth >> (8 * bytes - 1);
            return sign == 0 || sign == -1;
        }

        private void writeNumber(int worth) {
            int bytes = 1;
            while (bytes < 4 && !isWholeBy(worth, bytes)) {
                bytes++;
            }
            for (int k = bytes - 1; k >= 0; k--) {
                out.append((worth >> (8 * k)) & 255);
            }
        }
    }

    /** Says how a THING is SHOWN. */
    private static final class Shower {
        /** No byte of THE FILE comes to more than four signs. */
        private final Bytes signs = new Bytes(5 * MOST_BYTES);

        Bytes signsOf(Things things, int t) {
            signs.endBehind(0);
            showThing(things, t, 0);
            return signs;
        }

        private void showThing(Things things, int t, int groups) {
            switch (things.typeOf(t)) {
                case NUMBER:
                    showNumber(things.worthOf(t));
                    break;
                case WORDS:
                    showWords(things, t);
                    break;
                case RAW:
                    showRaw(things, t);
                    break;
                default:
                    showGroup(things, t, groups);
                    break;
            }
        }

        private void showNumber(int worth) {
            // as a long, the least int has a worth without its sign, too
            long rest = Math.abs((long) worth);
            if (worth < 0) {
                signs.append('-');
            }
            long power = 1;
            for (int k = 0; k < 10 && power * 10 <= rest; k++) {
                power *= 10;
            }
            for (; power > 0; power /= 10) {
                signs.append((int) ('0' + rest / power % 10));
            }
        }

        private void showWords(Things things, int t) {
            signs.append('"');
            for (int k = 0; k < things.worthOf(t); k++) {
                signs.append(things.contentOf(t, k));
            }
            signs.append('"');
        }

        private void showRaw(Things things, int t) {
            signs.append('<');
            for (int k = 0; k < things.worthOf(t); k++) {
                if (k > 0) {
                    signs.append(',');
                }
                showNumber(things.contentOf(t, k));
            }
            signs.append('>');
        }

        private void showGroup(Things things, int t, int groups) {
            signs.append('(');
            int end = groups < DEEPEST_SET ? t + things.spanOf(t) : t;
            for (int u = t + 1; u < end; u += Math.max(things.spanOf(u), 1)) {
                if (u > t + 1) {
                    signs.append(';');
                }
                showThing(things, u, groups + 1);
            }
            signs.append(')');
        }
    }

    /** A TAPE: every item as the long that it is worth. */
    private static final class Tape {
        private final long[] items = new long[MOST_ITEMS];
        private int sort = HOLDS_NOTHING;
        private int size;

        int sort() {
            return sort;
        }

        boolean holdsNothing() {
            return sort == HOLDS_NOTHING;
        }

        boolean has(int i) {
            return i >= 0 && i < size;
        }

        boolean reaches(int i, int n) {
            return i >= 0 && n >= 0 && (long) i + n <= size;
        }

        void become(int newSort, int n) {
            sort = newSort;
            size = Math.max(0, Math.min(n, items.length));
            for (int i = 0; i < items.length; i++) {
                items[i] = 0;
            }
        }

        long itemAt(int i) {
            return has(i) ? items[i] : 0;
        }

        void keep(int i, long v) {
            if (has(i)) {
                items[i] = worthAsItem(v);
            }
        }

        private long worthAsItem(long v) {
            switch (sort) {
                case BYTES:
                    return (byte) v;
                case SHORTS:
                    return (short) v;
                case INTS:
                    return (int) v;
                case LONGS:
                    return v;
                default:
                    return v != 0 ? 1 : 0;
            }
        }

        void copyFrom(Tape from, int i, int j, int n) {
            if (from.reaches(i, n) && reaches(j, n)) {
                System.arraycopy(from.items, i, items, j, n);
            }
        }
    }
}
