import java.util.Arrays;

/** What the Terms say of how THE FILE is READ, and of its FAULTS, at its boundaries. */
final class FormatEdges {
    private static final String TERMS = "Terms 1";
    private static final int NUMBER = Made.NUMBER, WORDS = Made.WORDS, RAW = Made.RAW, GROUP = Made.GROUP;

    private FormatEdges() {
    }

    static void all(Held held) {
        magic(held);
        version(held);
        entries(held);
        shortHead(held);
        offsetsInTheHead(held);
        offsetsBehindTheEnd(held);
        sharedBytes(held);
        layersOfTheTable(held);
        chunksByEntries(held);
        checks(held);
        types(held);
        numbers(held);
        lengths(held);
        words(held);
        groups(held);
        seventh(held);
        deep(held);
        shortInGroup(held);
        faults(held);
        things(held);
        recovered(held);
    }

    // ---- LAYERS 0 and 1

    private static void magic(Held held) {
        Run run = held.run(TERMS, "It is READ: places 0 and 1: 67 and 70, else MAGIC (1) at the first that isn't;");
        for (int first : new int[] {0, 66, 68, 70, 255}) {
            run.fileNow(first);
            run.faults(1, 0, 0);
        }
        for (int second : new int[] {0, 67, 69, 71, 255}) {
            run.fileNow(67, second);
            run.faults(1, 0, 1);
        }
        run.fileNow(70, 67);
        run.faults(1, 0, 0);
        run.fileNow(67, 70, 1, 0);
        run.whole(0);
        run.due(67, "set", 0, 66);
        run.faults(1, 0, 0);
        run.due(70, "set", 1, 71);
        run.faults(1, 0, 0);
        run.due(66, "set", 0, 67);
        run.faults(1, 0, 1);
    }

    private static void version(Held held) {
        Run run = held.run(TERMS, "place 2: the VERSION 1 .. 3, else VERSION (2) there;");
        run.file(67, 70, 0);
        run.faults(2, 0, 2);
        for (int v : new int[] {0, 4, 128, 255}) {
            run.fileNow(67, 70, v, 0);
            run.faults(2, 0, 2);
        }
        run.due(255, "set", 2, 1);
        run.whole(0);
        run.due(1, "set", 2, 2);
        run.whole(0);
        run.due(2, "set", 2, 3);
        run.whole(0);
        run.due(3, "set", 2, 4);
        run.due(0, "set", 3, 7);
        run.faults(2, 0, 2);
        run.due(70, "set", 1, 0);
        run.faults(1, 0, 1);
    }

    private static void entries(Held held) {
        Run run = held.run(TERMS, "place 3: how many ENTRIES, 0 .. 6, else TABLE (5) there;");
        run.file(67, 70, 1, 0);
        run.whole(0);
        for (int many : new int[] {7, 8, 128, 255}) {
            run.fileNow(67, 70, 1, many);
            run.faults(5, 0, 3);
        }
        run.fileNow(67, 70, 1, 6);
        run.faults(3, 0, 4);
        run.fileNow(Made.fileOf(1, sixEmpty()));
        run.whole(6);
        run.due(6, "set", 3, 7);
        run.faults(5, 0, 3);
        run = held.run(TERMS, "from place 4 on ENTRIES, three bytes each: TYPE, OFFSET, LENGTH.");
        for (int many = 0; many <= 6; many++) {
            int[] file = Made.fileOf(1, Arrays.copyOf(sixEmpty(), many));
            run.fileNow(file);
            run.due(many, "read");
        }
        run.due(114, "thing", 5, 0);
        run.refused(Run.NO, "thing", 6, 0);
        run = held.run(TERMS, "from place 4 on ENTRIES, three bytes each: TYPE, OFFSET, LENGTH.");
        run.file(67, 70, 1, 2, NUMBER, 12, 1, RAW, 10, 1, 8, 8, 9, 9);
        run.whole(2);
        run.due(9, "thing", 0, 1);
        run.due(RAW, "thing", 1, 0);
    }

    private static int[][] sixEmpty() {
        int[][] chunks = new int[6][];
        Arrays.fill(chunks, Made.chunk(1, RAW));
        return chunks;
    }

    private static void shortHead(Held held) {
        Run run = held.run(TERMS, "Where a byte is wanted behind THE FILE's end: SHORT (3), at the end.");
        int[] head = Arrays.copyOf(Made.fileOf(1, sixEmpty()), 22);
        run.file(head);
        run.offsetFault(0);
        for (int n = 21; n >= 0; n--) {
            run.due(n + 1, "cut", n);
            run.faults(3, 0, n);
        }
        run = held.run(TERMS, "Where a byte is wanted behind THE FILE's end: SHORT (3), at the end.");
        run.file(67, 70, 1, 1, RAW, 7);
        run.faults(3, 0, 6);
        run.due(7, "put", 0);
        run.offsetFault(0);
        run.due(8, "put", 0);
        run.whole(1);
        run.due(1, "set", 3, 2);
        run.faults(3, 0, 8);
        run.due(2, "set", 3, 0);
        run.whole(0);
        run.due(8, "cut", 4);
        run.whole(0);
        run.due(4, "cut", 3);
        run.faults(3, 0, 3);
    }

    private static void offsetsInTheHead(Held held) {
        String sentence = "Then ENTRY by ENTRY: OFFSET must not lie within the head and ENTRIES,";
        Run run = held.run(TERMS, sentence);
        run.file(67, 70, 1, 1, RAW, 7, 0, 0, 0);
        run.whole(1);
        int was = 7;
        for (int offset : new int[] {6, 5, 4, 3, 1, 0}) {
            run.due(was, "set", 5, offset);
            run.offsetFault(0);
            was = offset;
        }
        run.due(0, "set", 5, 8);
        run.whole(1);
        run = held.run(TERMS, sentence);
        run.file(Made.fileOf(2, sixEmpty()));
        run.whole(6);
        run.due(27, "set", 20, 21);
        run.offsetFault(5);
        run.due(22, "set", 5, 27);
        run.due(21, "set", 20, 22);
        run.whole(6);
        run.due(24, "set", 11, 10);
        run.offsetFault(2);
        run = held.run(TERMS, sentence);
        run.file(67, 70, 1, 2, RAW, 10, 0, RAW, 12, 0, 0, 0, 0);
        run.whole(2);
        run.due(10, "set", 5, 9);
        run.offsetFault(0);
        // with one ENTRY less, what it would tell is free
        run.due(2, "set", 3, 1);
        run.whole(1);
        run.due(9, "set", 5, 6);
        run.offsetFault(0);
    }

    private static void offsetsBehindTheEnd(Held held) {
        String sentence = "and OFFSET, LENGTH and 1 (the CHECK) not behind the end: else TABLE (5) at the place of"
            + " that OFFSET byte;";
        Run run = held.run(TERMS, sentence);
        run.file(67, 70, 2, 1, RAW, 7, 3, 0, 0, 0, 0);
        run.whole(1);
        run.due(3, "set", 6, 4);
        run.offsetFault(0);
        run.due(4, "set", 6, 255);
        run.offsetFault(0);
        run.due(255, "set", 6, 3);
        run.due(7, "set", 5, 8);
        run.offsetFault(0);
        run.due(3, "set", 6, 0);
        run.due(8, "set", 5, 10);
        run.whole(1);
        run.due(10, "set", 5, 11);
        run.offsetFault(0);
        run.due(11, "set", 5, 255);
        run.offsetFault(0);
        run.due(0, "set", 6, 255);
        run.offsetFault(0);
        run.due(255, "set", 5, 10);
        run.due(255, "set", 6, 0);
        run.whole(1);
        run.due(11, "cut", 10);
        run.offsetFault(0);
        run = held.run(TERMS, sentence);
        run.file(Made.join(Made.row(67, 70, 2, 2, RAW, 10, 0, RAW, 119, 0), Made.filled(110, 0)));
        run.whole(2);
        run.due(119, "set", 8, 120);
        run.offsetFault(1);
        run.due(120, "set", 8, 119);
        run.due(0, "set", 9, 1);
        run.offsetFault(1);
    }

    private static void sharedBytes(Held held) {
        String sentence = "and no byte of it (LENGTH and the CHECK) may be one of an earlier ENTRY's: else TABLE"
            + " (5) there, too.";
        Run run = held.run(TERMS, sentence);
        run.file(Made.join(Made.row(67, 70, 2, 2, RAW, 14, 2, RAW, 10, 0), Made.filled(20, 0)));
        // the first has places 14 to 16
        int[][] free = {{10, 0}, {10, 3}, {13, 0}, {17, 0}, {17, 2}, {29, 0}};
        int[][] shared = {{10, 4}, {13, 1}, {14, 0}, {15, 0}, {16, 0}, {16, 3}, {13, 3}, {13, 5}, {10, 10}, {14, 2}};
        int[] was = {10, 0};
        for (int[] row : free) {
            become(run, was, row);
            run.due(2, "read");
            was = row;
        }
        for (int[] row : shared) {
            become(run, was, row);
            run.due(-105, "read");
            run.due(1, "fault", 1, 1);
            run.due(8, "fault", 1, 2);
            was = row;
        }
        run = held.run(TERMS, sentence);
        run.file(Made.join(Made.row(67, 70, 2, 3, RAW, 14, 0, RAW, 16, 0, RAW, 14, 0), Made.filled(20, 0)));
        run.offsetFault(2);
        run.due(14, "set", 11, 15);
        run.whole(3);
        run.due(15, "set", 11, 16);
        run.offsetFault(2);
        run.due(16, "set", 8, 14);
        run.offsetFault(1);
        run.due(14, "set", 5, 12);
        run.offsetFault(0);
    }

    private static void become(Run run, int[] was, int[] row) {
        run.due(was[0], "set", 8, row[0]);
        run.due(was[1], "set", 9, row[1]);
    }

    private static void layersOfTheTable(Held held) {
        Run run = held.run(TERMS, "All that is LAYER 0, but what is wrong with OFFSETS is LAYER 1.");
        run.file(67, 70, 1, 7);
        run.faults(5, 0, 3);
        run.due(7, "set", 3, 2);
        run.faults(3, 0, 4);
        run.due(5, "put", RAW);
        run.due(6, "put", 9);
        run.due(7, "put", 0);
        run.due(8, "put", RAW);
        run.due(9, "put", 10);
        run.due(10, "put", 0);
        run.due(11, "put", 0);
        run.offsetFault(0);
        run.due(9, "set", 5, 10);
        run.offsetFault(1);
        run.due(1, "set", 2, 9);
        run.faults(2, 0, 2);
    }

    // ---- LAYER 2

    private static void chunksByEntries(Held held) {
        Run run = held.run(TERMS, "Then, ENTRY by ENTRY, its CHUNK is READ: LAYER 2.");
        run.file(67, 70, 1, 2, RAW, 12, 1, RAW, 10, 1, 5, 6, 5, 6);
        run.chunkFault(0, 4, 2, 13);
        run.due(6, "set", 13, 5);
        run.chunkFault(1, 4, 2, 11);
        run.due(6, "set", 11, 5);
        run.whole(2);
        run = held.run(TERMS, "Then, ENTRY by ENTRY, its CHUNK is READ: LAYER 2.");
        // what is wrong with OFFSETS, be it of the last ENTRY, comes ahead of all CHUNKS
        run.file(67, 70, 1, 2, RAW, 10, 1, RAW, 12, 1, 5, 6, 5);
        run.offsetFault(1);
        run.due(14, "put", 5);
        run.chunkFault(0, 4, 2, 11);
        run = held.run(TERMS, "A CHUNK: a TYPE, its PAYLOAD (LENGTH bytes at OFFSET), a CHECK (the byte behind"
            + " that).");
        run.file(67, 70, 1, 1, RAW, 8, 2, 99, 1, 2, 3, 99);
        run.whole(1);
        run.due(2, "thing", 0, 1);
        run.shown(0, "<1,2>");
        run.due(2, "set", 6, 0);
        run.chunkFault(0, 4, 2, 8);
        run.due(1, "set", 8, 0);
        run.whole(1);
        run.shown(0, "<>");
    }

    private static void checks(Held held) {
        Run run = held.run(TERMS, "Is the CHECK not that of the PAYLOAD: CHECK (4) at its place.");
        for (int version = 1; version <= 3; version++) {
            int[] file = Made.file(version, RAW, 200, 100, 7);
            run.fileNow(file);
            run.whole(1);
            for (int off : new int[] {1, 255}) {
                run.due(file[10], "set", 10, file[10] + off & 255);
                run.chunkFault(0, 4, 2, 10);
                run.due(file[10] + off & 255, "set", 10, file[10]);
            }
        }
        run = held.run(TERMS, "Is the CHECK not that of the PAYLOAD: CHECK (4) at its place.");
        // it comes ahead of what TYPE and LENGTH say
        run.file(67, 70, 1, 1, 9, 7, 1, 5, 6);
        run.chunkFault(0, 4, 2, 8);
        run.due(9, "set", 4, NUMBER);
        run.due(1, "set", 6, 0);
        run.chunkFault(0, 4, 2, 7);
        run.due(NUMBER, "set", 4, WORDS);
        run.due(0, "set", 6, 1);
        run.chunkFault(0, 4, 2, 8);
        run.due(WORDS, "set", 4, GROUP);
        run.chunkFault(0, 4, 2, 8);
    }

    private static void types(Held held) {
        String sentence = "another TYPE: TYPE (6) at the place of the TYPE byte (in a GROUP), of that in the ENTRY"
            + " (else).";
        Run run = held.run(TERMS, sentence);
        run.file(67, 70, 1, 1, 0, 7, 1, 65, 65);
        int was = 0;
        for (int type : new int[] {1, 102, 104, 109, 111, 113, 116, 255}) {
            run.chunkFault(0, 6, 2, 4);
            run.due(was, "set", 4, type);
            was = type;
        }
        run.due(255, "set", 4, NUMBER);
        run.whole(1);
        run.due(NUMBER, "set", 4, WORDS);
        run.whole(1);
        run.due(WORDS, "set", 4, RAW);
        run.whole(1);
        run.due(RAW, "set", 4, GROUP);
        run.chunkFault(0, 9, 2, 7, 3, 3, 8);
        run = held.run(TERMS, sentence);
        // TYPE, not VALUE, however long it is
        run.file(Made.file(1, 112, Made.filled(30, 0)));
        run.chunkFault(0, 6, 2, 4);
        for (int type : new int[] {0, 102, 104, 109, 111, 112, 113, 116, 255}) {
            run = held.run(TERMS, sentence);
            run.file(Made.file(1, GROUP, Made.join(Made.chunk(1, NUMBER, 5), Made.chunk(1, type, 5))));
            run.chunkFault(0, 9, 2, 7, 6, 3, 11);
        }
        run.fileNow(Made.file(1, GROUP, Made.join(Made.chunk(1, NUMBER, 5), Made.chunk(1, RAW, 5))));
        run.whole(1);
    }

    private static void numbers(Held held) {
        String sentence = "Then by TYPE: 110 (n): a NUMBER: 1 to 4 bytes, the first the highest, with its sign (so"
            + " that 255 alone is -1);";
        long[] worths = {0, 1, 127, -128, -1, 255, 256, 128, -129, 32767, -32768, -1, 1, 65535, -65536, 8388607,
            -8388608, 8388608, 1, -1, Integer.MAX_VALUE, Integer.MIN_VALUE, 0x01020304};
        int[][] payloads = {{0}, {1}, {127}, {128}, {255}, {0, 255}, {1, 0}, {0, 128}, {255, 127}, {127, 255}, {128, 0},
            {255, 255}, {0, 0, 1}, {0, 255, 255}, {255, 0, 0}, {127, 255, 255}, {128, 0, 0}, {0, 128, 0, 0},
            {0, 0, 0, 1}, {255, 255, 255, 255}, {127, 255, 255, 255}, {128, 0, 0, 0}, {1, 2, 3, 4}};
        for (int k = 0; k < worths.length; k++) {
            Run run = held.run(TERMS, sentence);
            run.file(Made.file(1 + k % 3, NUMBER, payloads[k]));
            run.whole(1);
            run.due(worths[k], "thing", 0, 1);
            run.shown(0, Long.toString(worths[k]));
        }
    }

    private static void lengths(Held held) {
        String sentence = "NUMBERS of another length, WORDS or RAW of more than 20: VALUE (7) at the place of the"
            + " LENGTH byte (in the ENTRY, or the GROUP);";
        int[] types = {NUMBER, WORDS, RAW};
        int[][] whole = {{1, 2, 3, 4}, {0, 1, 19, 20}, {0, 1, 19, 20}};
        int[][] wrong = {{0, 5, 6, 21, 90}, {21, 22, 40, 90}, {21, 22, 40, 90}};
        for (int sort = 0; sort < 3; sort++) {
            Run run = held.run(TERMS, sentence);
            for (int length : whole[sort]) {
                run.fileNow(Made.file(1, types[sort], Made.filled(length, 65)));
                run.whole(1);
            }
            for (int length : wrong[sort]) {
                run = held.run(TERMS, sentence);
                run.file(Made.file(2, types[sort], Made.filled(length, 65)));
                run.chunkFault(0, 7, 2, 6);
                run = held.run(TERMS, sentence);
                int[] inGroup = Made.chunk(3, types[sort], Made.filled(length, 65));
                run.file(Made.fileOf(3, Made.chunk(3, RAW, 1), Made.chunk(3, GROUP, inGroup)));
                run.chunkFault(1, 9, 2, 12, 7, 3, 13);
            }
        }
        Run run = held.run(TERMS, sentence);
        // a long one is said at its LENGTH, whatever bytes it has
        run.file(Made.file(1, WORDS, Made.filled(21, 0)));
        run.chunkFault(0, 7, 2, 6);
        run = held.run(TERMS, sentence);
        run.file(Made.file(1, GROUP, Made.join(Made.chunk(1, RAW, Made.filled(20, 1)), Made.chunk(1, NUMBER))));
        run.chunkFault(0, 9, 2, 7, 7, 3, 31);
        run = held.run(TERMS, "114 (r): RAW: 0 to 20 bytes;");
        run.file(Made.file(1, RAW, Made.join(Made.row(0, 31, 127, 255), Made.filled(16, 128))));
        run.whole(1);
        run.due(20, "thing", 0, 1);
        run.fileNow(Made.file(1, RAW, Made.filled(21, 128)));
        run.chunkFault(0, 7, 2, 6);
        run.fileNow(Made.file(1, RAW));
        run.whole(1);
        run.due(0, "thing", 0, 1);
    }

    private static void words(Held held) {
        Run run = held.run(TERMS, "115 (s): WORDS: 0 to 20 bytes 32 .. 126;");
        run.file(Made.file(1, WORDS));
        run.whole(1);
        run.due(0, "thing", 0, 1);
        run.fileNow(Made.file(1, WORDS, Made.join(Made.row(32), Made.filled(18, 80), Made.row(126))));
        run.whole(1);
        run.due(20, "thing", 0, 1);
        run.fileNow(Made.file(1, WORDS, Made.filled(21, 80)));
        run.chunkFault(0, 7, 2, 6);
        run = held.run(TERMS, "WORDS with another byte: VALUE (7) at the first such;");
        for (int v : new int[] {0, 31, 127, 128, 255}) {
            for (int place = 0; place < 3; place++) {
                int[] payload = {32, 126, 65};
                payload[place] = v;
                run.fileNow(Made.file(1, WORDS, payload));
                run.due(-107, "read");
                run.due(2, "fault", 2, 1);
                run.due(7 + place, "fault", 2, 2);
            }
        }
        run = held.run(TERMS, "WORDS with another byte: VALUE (7) at the first such;");
        run.file(Made.file(1, WORDS, 32, 127, 31, 126));
        run.chunkFault(0, 7, 2, 8);
        run.due(127, "set", 8, 126);
        run.due(60, "set", 11, 59);
        run.chunkFault(0, 7, 2, 9);
        run.fileNow(Made.file(1, WORDS, Made.join(Made.filled(19, 70), Made.row(200))));
        run.chunkFault(0, 7, 2, 26);
        run.fileNow(Made.file(1, GROUP, Made.join(Made.chunk(1, WORDS, 32), Made.chunk(1, WORDS, 65, 31))));
        run.chunkFault(0, 9, 2, 7, 7, 3, 14);
    }

    // ---- GROUPS

    private static void groups(Held held) {
        String sentence = "103 (g): a GROUP: CHUNKS one behind the other till its PAYLOAD ends, 6 at most, each:"
            + " TYPE, LENGTH, PAYLOAD, CHECK, of the next LAYER;";
        int[] one = Made.chunk(2, NUMBER, 5);
        Run run = held.run(TERMS, sentence);
        for (int many = 0; many <= 6; many++) {
            run.fileNow(Made.file(2, GROUP, Made.times(many, one)));
            run.due(1, "read");
            run.due(many, "thing", 0, 1);
            run.due(many + 1, "thing", 0, 2);
        }
        run = held.run(TERMS, sentence);
        run.file(Made.file(2, GROUP, Made.times(6, one)));
        run.whole(1);
        run.fileNow(Made.file(2, GROUP, Made.join(Made.times(5, one), Made.row(NUMBER, 1, 5, 6))));
        run.chunkFault(0, 9, 2, 7, 4, 3, 30);
        run.fileNow(Made.file(2, GROUP, Made.times(7, one)));
        run.chunkFault(0, 9, 2, 7, 7, 3, 31);
        run = held.run(TERMS, sentence);
        // TYPE, LENGTH, PAYLOAD, CHECK of each sort, the least and the most that they may have
        run.file(Made.file(3, GROUP, Made.join(Made.chunk(3, NUMBER, 1), Made.chunk(3, NUMBER, 1, 2, 3, 4),
            Made.chunk(3, WORDS), Made.chunk(3, WORDS, Made.filled(20, 126)), Made.chunk(3, RAW),
            Made.chunk(3, RAW, Made.filled(20, 255)))));
        run.whole(1);
        run.due(6, "thing", 0, 1);
    }

    private static void seventh(Held held) {
        String sentence = "a seventh CHUNK: VALUE (7) at its TYPE's place (ahead of SHORT);";
        int[] six = Made.times(6, Made.chunk(1, RAW));
        Run run = held.run(TERMS, sentence);
        run.file(Made.file(1, GROUP, six));
        run.whole(1);
        for (int[] more : new int[][] {{RAW, 0, 0}, {RAW}, {RAW, 0}, {RAW, 9, 0}, {0, 0, 0}, {NUMBER, 0, 9}}) {
            run = held.run(TERMS, sentence);
            run.file(Made.file(1, GROUP, Made.join(six, more)));
            run.chunkFault(0, 9, 2, 7, 7, 3, 25);
        }
        run = held.run(TERMS, sentence);
        // the sixth's own FAULT, and one ahead of it, come first
        int[] five = Made.times(5, Made.chunk(1, RAW));
        run.file(Made.file(1, GROUP, Made.join(five, Made.chunk(1, NUMBER), Made.chunk(1, RAW))));
        run.chunkFault(0, 9, 2, 7, 7, 3, 23);
        run.fileNow(Made.file(1, GROUP, Made.join(five, Made.row(RAW, 4, 0, 0))));
        run.chunkFault(0, 9, 2, 7, 3, 3, 26);
        run = held.run(TERMS, sentence);
        run.file(Made.file(1, GROUP, Made.nested(1, 1, Made.join(six, Made.row(RAW)))));
        run.chunkFault(0, 9, 2, 7, 9, 3, 9, 7, 4, 27);
        run.fileNow(Made.file(1, GROUP, Made.join(five, Made.nested(1, 1, six))));
        run.whole(1);
    }

    private static void deep(Held held) {
        String sentence = "a GROUP in LAYER 5: DEEP (8) at the place of its TYPE.";
        Run run = held.run(TERMS, sentence);
        run.file(Made.file(1, GROUP, Made.nested(1, 2)));
        run.whole(1);
        run.due(3, "thing", 0, 3);
        run.fileNow(Made.file(1, GROUP, Made.nested(1, 3)));
        run.chunkFault(0, 9, 2, 7, 9, 3, 9, 9, 4, 11, 8, 5, 11);
        run.fileNow(Made.file(1, GROUP, Made.nested(1, 4)));
        run.chunkFault(0, 9, 2, 7, 9, 3, 9, 9, 4, 11, 8, 5, 11);
        run.fileNow(Made.file(1, GROUP, Made.nested(1, 3, Made.chunk(1, NUMBER, 5))));
        run.chunkFault(0, 9, 2, 7, 9, 3, 9, 9, 4, 11, 8, 5, 11);
        run = held.run(TERMS, sentence);
        run.file(Made.file(1, GROUP, Made.nested(1, 2, Made.chunk(1, NUMBER, 5))));
        run.whole(1);
        run.fileNow(Made.file(1, GROUP, Made.nested(1, 2, Made.join(Made.chunk(1, NUMBER, 5),
            Made.chunk(1, GROUP)))));
        run.chunkFault(0, 9, 2, 7, 9, 3, 9, 9, 4, 11, 8, 5, 15);
        run = held.run(TERMS, sentence);
        // its CHECK comes ahead of that, and SHORT, too
        run.file(Made.file(1, GROUP, Made.nested(1, 2, GROUP, 0, 1)));
        run.chunkFault(0, 9, 2, 7, 9, 3, 9, 9, 4, 11, 4, 5, 13);
        run.fileNow(Made.file(1, GROUP, Made.nested(1, 2, GROUP, 1, 1)));
        run.chunkFault(0, 9, 2, 7, 9, 3, 9, 9, 4, 11, 3, 5, 14);
    }

    private static void shortInGroup(Held held) {
        String sentence = "In a GROUP, where a CHUNK would go on behind the PAYLOAD: SHORT (3) at the PAYLOAD's"
            + " end (SHORT, a seventh: of the CHUNK's LAYER).";
        Run run = held.run(TERMS, sentence);
        run.file(Made.file(2, GROUP));
        run.whole(1);
        run.fileNow(Made.file(2, GROUP, RAW));
        run.chunkFault(0, 9, 2, 7, 3, 3, 8);
        run.fileNow(Made.file(2, GROUP, RAW, 0));
        run.chunkFault(0, 9, 2, 7, 3, 3, 9);
        run.fileNow(Made.file(2, GROUP, RAW, 0, 0));
        run.whole(1);
        run.fileNow(Made.file(2, GROUP, RAW, 1, 0));
        run.chunkFault(0, 9, 2, 7, 3, 3, 10);
        run.fileNow(Made.file(2, GROUP, RAW, 1, 0, 0));
        run.whole(1);
        run.fileNow(Made.file(2, GROUP, RAW, 255, 0, 0));
        run.chunkFault(0, 9, 2, 7, 3, 3, 11);
        run = held.run(TERMS, sentence);
        // of the second CHUNK, with bytes of THE FILE behind the PAYLOAD; SHORT comes ahead of its TYPE, CHECK, VALUE
        int[] one = Made.chunk(2, NUMBER, 5);
        for (int[] more : new int[][] {{0}, {0, 0}, {0, 1, 9}, {NUMBER, 5, 9}}) {
            run.fileNow(Made.fileOf(2, Made.chunk(2, GROUP, Made.join(one, more)), Made.chunk(2, RAW, 1, 2, 3)));
            run.chunkFault(0, 9, 2, 10, 3, 3, 14 + more.length);
        }
        run = held.run(TERMS, sentence);
        // at the end of the PAYLOAD that it stands in, not of those around it
        run.file(Made.file(2, GROUP, Made.join(Made.chunk(2, GROUP, RAW, 2, 0), one)));
        run.chunkFault(0, 9, 2, 7, 9, 3, 9, 3, 4, 12);
        run.fileNow(Made.file(2, GROUP, Made.nested(2, 2, RAW, 1, 0)));
        run.chunkFault(0, 9, 2, 7, 9, 3, 9, 9, 4, 11, 3, 5, 14);
    }

    // ---- FAULTS, THINGS, RECOVERED

    private static void faults(Held held) {
        Run run = held.run(TERMS, "A FAULT: what (1 .. 8), LAYER, place.");
        run.file(66);
        run.faults(1, 0, 0);
        run.fileNow(67, 70, 9);
        run.faults(2, 0, 2);
        run.fileNow(67, 70);
        run.faults(3, 0, 2);
        run.fileNow(Made.row(67, 70, 1, 1, RAW, 7, 0, 1));
        run.chunkFault(0, 4, 2, 7);
        run.fileNow(67, 70, 1, 7);
        run.faults(5, 0, 3);
        run.fileNow(67, 70, 1, 1, 0, 7, 0, 0);
        run.chunkFault(0, 6, 2, 4);
        run.fileNow(67, 70, 1, 1, NUMBER, 7, 0, 0);
        run.chunkFault(0, 7, 2, 6);
        run.fileNow(Made.file(1, GROUP, Made.nested(1, 3)));
        run.chunkFault(0, 9, 2, 7, 9, 3, 9, 9, 4, 11, 8, 5, 11);
        run = held.run(TERMS, "One in a CHUNK goes up LAYER by LAYER: each GROUP it is in has WITHIN (9), its"
            + " LAYER, the place of its own PAYLOAD's first byte, with that as CAUSE;");
        run.file(Made.file(1, 9));
        run.chunkFault(0, 6, 2, 4);
        int[] wrong = Made.chunk(1, 9);
        run.fileNow(Made.file(1, GROUP, wrong));
        run.chunkFault(0, 9, 2, 7, 6, 3, 7);
        run.fileNow(Made.file(1, GROUP, Made.nested(1, 1, wrong)));
        run.chunkFault(0, 9, 2, 7, 9, 3, 9, 6, 4, 9);
        run.fileNow(Made.file(1, GROUP, Made.nested(1, 2, wrong)));
        run.chunkFault(0, 9, 2, 7, 9, 3, 9, 9, 4, 11, 6, 5, 11);
        int[] two = Made.join(Made.chunk(1, NUMBER, 5), wrong);
        run.fileNow(Made.file(1, GROUP, Made.join(Made.chunk(1, RAW, 1, 2), Made.nested(1, 1, two))));
        run.chunkFault(0, 9, 2, 7, 9, 3, 14, 6, 4, 18);
        whereLayersStand(held, wrong);
    }

    private static void whereLayersStand(Held held, int[] wrong) {
        Run run = held.run(TERMS, "LAYER 1 has WITHIN, the place of the ENTRY's TYPE byte;");
        for (int entry = 0; entry < 6; entry++) {
            int[][] chunks = sixEmpty();
            chunks[entry] = wrong;
            run.fileNow(Made.fileOf(1, chunks));
            run.due(9, "fault", 1, 0);
            run.due(1, "fault", 1, 1);
            run.due(4 + 3 * entry, "fault", 1, 2);
            run.due(4 + 3 * entry, "fault", 2, 2);
        }
        run = held.run(TERMS, "LAYER 0 has WITHIN at place 0 (of one in LAYER 1, too).");
        run.file(Made.fileOf(1, Made.chunk(1, RAW), wrong));
        run.faults(9, 0, 0, 9, 1, 7, 6, 2, 7);
        run.due(10, "set", 5, 9);
        run.faults(9, 0, 0, 5, 1, 5);
        run.due(2, "set", 3, 7);
        run.faults(5, 0, 3);
        run = held.run(TERMS, "THE FAULT of THE FILE is that of LAYER 0, with its CAUSES.");
        run.file(67, 70, 1, 1, 9, 7, 0, 0);
        run.faults(9, 0, 0, 9, 1, 4, 6, 2, 4);
        run.due(1, "set", 2, 0);
        run.faults(2, 0, 2);
        run.due(0, "set", 2, 3);
        run.due(9, "set", 4, RAW);
        run.faults();
    }

    private static void things(Held held) {
        Run run = held.run(TERMS, "THINGS: a NUMBER, WORDS, RAW, a GROUP of THINGS.");
        run.file(Made.fileOf(1, Made.chunk(1, NUMBER, 1), Made.chunk(1, WORDS), Made.chunk(1, RAW),
            Made.chunk(1, GROUP, Made.chunk(1, GROUP))));
        run.whole(4);
        run.due(NUMBER, "thing", 0, 0);
        run.due(WORDS, "thing", 1, 0);
        run.due(RAW, "thing", 2, 0);
        run.due(GROUP, "thing", 3, 0);
        run.refused(Run.NO, "thing", 4, 0);
        run = held.run(TERMS, "THE FILE READ without FAULT: its THINGS, by ENTRIES.");
        run.file(67, 70, 1, 3, NUMBER, 17, 1, NUMBER, 15, 1, NUMBER, 13, 1, 3, 3, 2, 2, 1, 1);
        run.whole(3);
        for (int k = 0; k < 3; k++) {
            run.due(k + 1, "thing", k, 1);
        }
        run.due(1, "set", 18, 0);
        run.due(-104, "read");
        run.refused(Run.NO, "thing", 1, 1);
    }

    private static void recovered(Held held) {
        String sentence = "RECOVERED: with LAYER 0 whole but WITHIN: ENTRIES by themselves, those that LAYER 1 has"
            + " nothing against (looking at earlier ones that it has nothing against alone) and whose CHUNK has no"
            + " FAULT.";
        Run run = held.run(TERMS, sentence);
        run.file(Made.fileOf(1, sixEmpty()));
        run.due(63, "recovered");
        for (int entry = 0; entry < 6; entry++) {
            run.due(RAW, "set", 4 + 3 * entry, 9);
            run.due(63 - (1 << entry), "recovered");
            run.due(9, "set", 4 + 3 * entry, RAW);
            run.due(22 + entry, "set", 5 + 3 * entry, 21);
            run.due(63 - (1 << entry), "recovered");
            run.due(21, "set", 5 + 3 * entry, 22 + entry);
        }
        run.due(6, "set", 3, 7);
        run.due(0, "recovered");
        run.due(7, "set", 3, 6);
        run.due(1, "set", 2, 4);
        run.due(0, "recovered");
        run = held.run(TERMS, sentence);
        // three ENTRIES: the second shares a byte with the first, the third with the second alone
        run.file(67, 70, 1, 3, RAW, 13, 1, RAW, 14, 1, RAW, 15, 1, 0, 0, 0, 0);
        run.due(-105, "read");
        run.due(5, "recovered");
        // the first is wrong: the second stands, the third does not
        run.due(13, "set", 5, 12);
        run.due(2, "recovered");
        run.due(12, "set", 5, 16);
        run.due(2, "recovered");
        // it lies over the second: that matters if it ends where THE FILE does, not if it goes on behind that, nor if
        // it begins in the ENTRIES
        run.due(16, "set", 5, 14);
        run.due(1, "set", 6, 2);
        run.due(1, "recovered");
        run.due(2, "set", 6, 3);
        run.due(2, "recovered");
        run.due(14, "set", 5, 12);
        run.due(2, "recovered");
        run.due(3, "set", 6, 1);
        run.due(12, "set", 5, 16);
        // the first's CHUNK alone has a FAULT: what shares a byte with it does not stand
        run.due(16, "set", 5, 13);
        run.due(RAW, "set", 4, 9);
        run.due(4, "recovered");
        run = held.run(TERMS, sentence);
        // the third shares a byte with the first, over the second
        run.file(67, 70, 1, 3, RAW, 13, 0, RAW, 14, 0, RAW, 13, 0, 0, 0);
        run.due(3, "recovered");
        run.due(13, "set", 5, 255);
        run.due(6, "recovered");
        run.due(14, "set", 8, 15);
        run.due(4, "recovered");
        run.due(13, "set", 11, 0);
        run.due(0, "recovered");
        run.due(-105, "read");
    }
}
