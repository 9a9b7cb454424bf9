/** Promises 25 and 30 to 33, and what the Terms say of TAPES and of what is JUDGED, at their boundaries. */
final class TapesEdges {
    private static final String TERMS = "Terms 3", TAPE = "Promise 30", ITEM = "Promise 31", SHIFT = "Promise 33";
    private static final String BECOMES = "Item i of a TAPE becomes v (its lowest bits, as many as an item has;"
        + " booleans: whether v is not 0): 1.";
    private static final String COME = "n items of a TAPE from i on come to another one (or the same) from j on, as"
        + " they all were before: n.";
    private static final long[] NO_TAPES = {Run.LEAST, -1, 6, 7, Run.MOST};

    private TapesEdges() {
    }

    static void all(Held held) {
        tapes(held);
        tape(held);
        tapeRefused(held);
        item(held);
        itemBits(held);
        itemRefused(held);
        peek(held);
        shift(held);
        shiftOverItself(held);
        shiftRefused(held);
        shiftPlaces(held);
        refusals(held);
        judge(held);
        judgeEnds(held);
        judgeNothing(held);
        judgeRefused(held);
    }

    private static void tapes(Held held) {
        Run run = held.run(TERMS, "TAPES 0 .. 5 hold nothing (at first), or a row of 0 bytes, 1 shorts, 2 ints, 3"
            + " longs, 4 booleans (items 0, 1).");
        for (int tape = 0; tape < 6; tape++) {
            run.refused(Run.NO, "peek", tape, 0);
            run.refused(Run.NOTHING, "item", tape, 0, 0);
        }
        long v = 0x1_8000_8080L;
        long[] worths = {-128, -32640, Integer.MIN_VALUE + 0x8080, v, 1};
        for (int sort = 0; sort < 5; sort++) {
            run.due(1, "tape", sort, sort, 2);
            run.due(1, "item", sort, 1, v);
            run.items(sort, 0, worths[sort]);
        }
        run.refused(Run.NO, "peek", 5, 0);
        run.refused(Run.NONE, "tape", 6, 0, 0);
    }

    private static void tape(Held held) {
        String sentence = "A TAPE becomes a row of n (0 .. 60) of a sort, all 0, or holds nothing (sort -1: n does"
            + " not matter): 1.";
        Run run = held.run(TAPE, sentence);
        for (int sort = 0; sort < 5; sort++) {
            run.due(1, "tape", 5, sort, 60);
            run.due(0, "peek", 5, 0);
            run.due(0, "peek", 5, 59);
            run.refused(Run.NO, "peek", 5, 60);
            run.due(1, "item", 5, 59, 1);
            run.due(1, "item", 5, 0, 1);
            run.due(1, "tape", 5, sort, 60);
            run.due(0, "peek", 5, 0);
            run.due(0, "peek", 5, 59);
            run.due(1, "tape", 5, sort, 0);
            run.items(5);
            run.refused(Run.PLACE, "item", 5, 0, 0);
            run.due(1, "tape", 5, sort, 1);
            run.items(5, 0);
            run.refused(Run.PLACE, "item", 5, 1, 0);
        }
        run.due(1, "tape", 0, 3, 2);
        run.items(0, 0, 0);
        run.items(5, 0);
        run = held.run(TAPE, sentence);
        // what it held is gone, with its sort and its items
        run.due(1, "tape", 0, 3, 3);
        for (int i = 0; i < 3; i++) {
            run.due(1, "item", 0, i, 1000);
        }
        run.due(1, "tape", 0, 0, 2);
        run.items(0, 0, 0);
        run.due(1, "item", 0, 0, 1000);
        run.items(0, 1000 - 1024, 0);
        run.due(1, "tape", 0, 0, 60);
        for (int i = 0; i < 60; i++) {
            run.due(0, "peek", 0, i);
        }
        for (long n : new long[] {Run.LEAST, -1, 0, 60, 61, Run.MOST}) {
            run.due(1, "tape", 0, -1, n);
            run.refused(Run.NOTHING, "item", 0, 0, 0);
            run.due(1, "tape", 0, -1, n);
            run.due(1, "tape", 0, 1, 1);
            run.due(1, "item", 0, 0, 1);
        }
    }

    private static void tapeRefused(Held held) {
        Run run = held.run(TAPE, "NONE: tape;");
        for (long tape : NO_TAPES) {
            run.refused(Run.NONE, "tape", tape, 0, 5);
            run.refused(Run.NONE, "tape", tape, -1, 0);
            run.refused(Run.NONE, "tape", tape, 5, 61);
            run.refused(Run.NONE, "tape", tape, 0, -1);
        }
        run.due(1, "tape", 5, 0, 5);
        run.due(1, "tape", 0, 0, 5);
        run = held.run(TAPE, "BAD: sort, n above 60;");
        run.row(0, 7);
        for (long sort : new long[] {Run.LEAST, -2, 5, 6, Run.MOST}) {
            for (long n : new long[] {Run.LEAST, -1, 0, 60, 61, Run.MOST}) {
                run.refused(Run.BAD, "tape", 0, sort, n);
            }
        }
        for (int sort = 0; sort < 5; sort++) {
            run.refused(Run.BAD, "tape", 0, sort, 61);
            run.refused(Run.BAD, "tape", 0, sort, Run.MOST);
            run.refused(Run.BAD, "tape", 1, sort, 61);
        }
        run.items(0, 7);
        run.refused(Run.NOTHING, "item", 1, 0, 0);
        run.due(1, "tape", 0, 4, 60);
        run = held.run(TAPE, "SIZE.");
        run.row(0, 7);
        for (int sort = 0; sort < 5; sort++) {
            run.refused(Run.SIZE, "tape", 0, sort, -1);
            run.refused(Run.SIZE, "tape", 0, sort, Run.LEAST);
            run.refused(Run.SIZE, "tape", 1, sort, -1);
        }
        run.refused(Run.BAD, "tape", 0, 5, -1);
        run.refused(Run.NONE, "tape", 6, 0, -1);
        run.items(0, 7);
        run.refused(Run.NOTHING, "item", 1, 0, 0);
        run.due(1, "tape", 0, 0, 0);
        run.items(0);
    }

    private static void item(Held held) {
        for (int sort = 0; sort < 5; sort++) {
            Run run = held.run(ITEM, BECOMES);
            run.due(1, "tape", 2, sort, 60);
            run.due(1, "item", 2, 0, 1);
            run.due(1, "item", 2, 59, 1);
            run.due(1, "peek", 2, 0);
            run.due(0, "peek", 2, 1);
            run.due(0, "peek", 2, 58);
            run.due(1, "peek", 2, 59);
            run.due(1, "item", 2, 59, 0);
            run.due(0, "peek", 2, 59);
            run.refused(Run.PLACE, "item", 2, 60, 1);
            run.refused(Run.PLACE, "item", 2, -1, 1);
        }
    }

    private static void itemBits(Held held) {
        long[] values = {0, 1, -1, 2, 127, 128, -128, -129, 255, 256, -256, 32767, 32768, -32768, -32769, 65535, 65536,
            Integer.MAX_VALUE, Integer.MAX_VALUE + 1L, Integer.MIN_VALUE, Integer.MIN_VALUE - 1L, 0xffffffffL,
            1L << 32, 1L << 40, Long.MAX_VALUE, Long.MIN_VALUE + 1};
        for (int sort = 0; sort < 5; sort++) {
            Run run = held.run(ITEM, BECOMES);
            run.due(1, "tape", sort, sort, 1);
            for (long v : values) {
                run.due(1, "item", sort, 0, v);
                run.due(worth(sort, v), "peek", sort, 0);
            }
        }
        Run run = held.run(ITEM, BECOMES);
        run.due(1, "tape", 0, 3, 2);
        run.due(1, "item", 0, 0, Long.MIN_VALUE);
        run.due(Long.MIN_VALUE, "peek", 0, 0);
        run.due(0, "peek", 0, 1);
        run.due(1, "tape", 0, 4, 1);
        run.due(1, "item", 0, 0, Long.MIN_VALUE);
        run.due(1, "peek", 0, 0);
        run.due(1, "tape", 0, 2, 1);
        run.due(1, "item", 0, 0, Long.MIN_VALUE);
        run.due(0, "peek", 0, 0);
    }

    private static long worth(int sort, long v) {
        return sort == 0 ? (byte) v : sort == 1 ? (short) v : sort == 2 ? (int) v : sort == 3 ? v : v != 0 ? 1 : 0;
    }

    private static void itemRefused(Held held) {
        Run run = held.run(ITEM, "NONE;");
        run.row(5, 7);
        for (long tape : NO_TAPES) {
            run.refused(Run.NONE, "item", tape, 0, 1);
            run.refused(Run.NONE, "item", tape, -1, 1);
            run.refused(Run.NONE, "item", tape, 60, 0);
        }
        run.due(1, "item", 5, 0, 8);
        run = held.run(ITEM, "NOTHING;");
        for (int tape = 0; tape < 6; tape++) {
            for (long i : new long[] {Run.LEAST, -1, 0, 59, 60, Run.MOST}) {
                run.refused(Run.NOTHING, "item", tape, i, 1);
            }
        }
        run.row(3, 7);
        run.due(1, "tape", 3, -1, 1);
        run.refused(Run.NOTHING, "item", 3, 0, 1);
        run.refused(Run.NOTHING, "item", 3, -1, 1);
        run = held.run(ITEM, "PLACE.");
        for (int n = 0; n < 3; n++) {
            for (int sort = 0; sort < 5; sort++) {
                run.due(1, "tape", 1, sort, n);
                for (long i : new long[] {Run.LEAST, -1, n, n + 1, 60, Run.MOST}) {
                    run.refused(Run.PLACE, "item", 1, i, 1);
                }
                run.items(1, new long[n]);
            }
        }
        run.due(1, "tape", 1, 0, 60);
        run.refused(Run.PLACE, "item", 1, 60, 1);
        run.due(1, "item", 1, 59, 1);
    }

    private static void peek(Held held) {
        Run run = held.run("Promise 32", "Item i of a TAPE.");
        run.row(0, 127, -128, 0);
        run.items(0, 127, -128, 0);
        run.due(1, "tape", 5, 3, 60);
        run.due(1, "item", 5, 59, Long.MAX_VALUE);
        run.due(Long.MAX_VALUE, "peek", 5, 59);
        run.due(0, "peek", 5, 58);
        run = held.run("Promise 32", "NO: no such TAPE, nothing there, no such place.");
        run.row(5, 7);
        run.due(1, "tape", 4, 4, 0);
        for (long tape : NO_TAPES) {
            run.refused(Run.NO, "peek", tape, 0);
            run.refused(Run.NO, "peek", tape, -1);
        }
        for (long i : new long[] {Run.LEAST, -1, 0, 1, 59, 60, Run.MOST}) {
            run.refused(Run.NO, "peek", 0, i);
            run.refused(Run.NO, "peek", 4, i);
            if (i != 0) {
                run.refused(Run.NO, "peek", 5, i);
            }
        }
        run.due(7, "peek", 5, 0);
        run.due(1, "tape", 5, -1, 0);
        run.refused(Run.NO, "peek", 5, 0);
    }

    private static void shift(Held held) {
        for (int sort = 0; sort < 5; sort++) {
            Run run = held.run(SHIFT, COME);
            run.due(1, "tape", 0, sort, 4);
            run.due(1, "tape", 5, sort, 3);
            run.due(1, "item", 0, 1, 1);
            run.due(1, "item", 0, 3, 1);
            run.due(3, "shift", 0, 1, 5, 0, 3);
            run.items(5, 1, 0, 1);
            run.items(0, 0, 1, 0, 1);
            run.due(0, "shift", 0, 4, 5, 3, 0);
            run.due(0, "shift", 0, 0, 5, 0, 0);
            run.items(5, 1, 0, 1);
            run.due(1, "shift", 0, 0, 5, 2, 1);
            run.items(5, 1, 0, 0);
            run.due(1, "shift", 5, 0, 0, 0, 1);
            run.items(0, 1, 1, 0, 1);
        }
        Run run = held.run(SHIFT, COME);
        // as many as there can be; items of all bits
        run.due(1, "tape", 0, 3, 60);
        run.due(1, "tape", 1, 3, 60);
        for (int i = 0; i < 60; i++) {
            run.due(1, "item", 0, i, i % 2 == 0 ? Long.MAX_VALUE - i : Long.MIN_VALUE + i);
        }
        run.due(60, "shift", 0, 0, 1, 0, 60);
        for (int i = 0; i < 60; i++) {
            run.due(i % 2 == 0 ? Long.MAX_VALUE - i : Long.MIN_VALUE + i, "peek", 1, i);
        }
        run.refused(Run.PLACE, "shift", 0, 0, 1, 0, 61);
        run = held.run(SHIFT, COME);
        // rows of none
        run.due(1, "tape", 0, 2, 0);
        run.due(1, "tape", 1, 2, 0);
        run.due(0, "shift", 0, 0, 1, 0, 0);
        run.due(0, "shift", 0, 0, 0, 0, 0);
        run.refused(Run.PLACE, "shift", 0, 0, 1, 0, 1);
        run.refused(Run.PLACE, "shift", 0, 1, 1, 0, 0);
    }

    private static void shiftOverItself(Held held) {
        for (int sort = 0; sort < 4; sort++) {
            Run run = held.run(SHIFT, COME);
            run.due(1, "tape", 3, sort, 5);
            for (int i = 0; i < 5; i++) {
                run.due(1, "item", 3, i, 10 + i);
            }
            run.due(4, "shift", 3, 0, 3, 1, 4);
            run.items(3, 10, 10, 11, 12, 13);
            run.due(4, "shift", 3, 1, 3, 0, 4);
            run.items(3, 10, 11, 12, 13, 13);
            run.due(5, "shift", 3, 0, 3, 0, 5);
            run.items(3, 10, 11, 12, 13, 13);
            run.due(3, "shift", 3, 0, 3, 2, 3);
            run.items(3, 10, 11, 10, 11, 12);
            run.due(1, "shift", 3, 4, 3, 0, 1);
            run.items(3, 12, 11, 10, 11, 12);
        }
    }

    private static void shiftRefused(Held held) {
        Run run = held.run(SHIFT, "NONE: tapes;");
        run.row(0, 7, 8);
        for (long tape : NO_TAPES) {
            run.refused(Run.NONE, "shift", tape, 0, 0, 0, 1);
            run.refused(Run.NONE, "shift", 0, 0, tape, 0, 1);
            run.refused(Run.NONE, "shift", tape, 0, tape, 0, 0);
            run.refused(Run.NONE, "shift", tape, 0, 1, 0, 1);
            run.refused(Run.NONE, "shift", 1, 0, tape, 0, 1);
            run.refused(Run.NONE, "shift", tape, -1, 0, -1, -1);
        }
        run.due(1, "shift", 0, 0, 0, 1, 1);
        run.items(0, 7, 7);
        run = held.run(SHIFT, "NOTHING;");
        run.row(0, 7, 8);
        for (long n : new long[] {Run.LEAST, -1, 0, 1, 3, Run.MOST}) {
            run.refused(Run.NOTHING, "shift", 0, 0, 5, 0, n);
            run.refused(Run.NOTHING, "shift", 5, 0, 0, 0, n);
            run.refused(Run.NOTHING, "shift", 4, 0, 5, 0, n);
            run.refused(Run.NOTHING, "shift", 4, 0, 4, 0, n);
        }
        run.refused(Run.NOTHING, "shift", 0, -1, 5, 0, 1);
        run.refused(Run.NOTHING, "shift", 5, 0, 0, Run.MOST, 1);
        run.items(0, 7, 8);
        run = held.run(SHIFT, "CAST: of unlike sorts;");
        for (int sort = 0; sort < 5; sort++) {
            run.due(1, "tape", sort, sort, 2);
            run.due(1, "item", sort, 0, 1);
        }
        for (int from = 0; from < 5; from++) {
            for (int to = 0; to < 5; to++) {
                if (from == to) {
                    run.due(1, "shift", from, 1, to, 1, 1);
                } else {
                    run.refused(Run.CAST, "shift", from, 0, to, 1, 1);
                    run.refused(Run.CAST, "shift", from, 0, to, 0, 0);
                    run.refused(Run.CAST, "shift", from, -1, to, 9, -1);
                    run.refused(Run.CAST, "shift", from, Run.MOST, to, 0, Run.MOST);
                }
            }
        }
        for (int sort = 0; sort < 5; sort++) {
            run.items(sort, 1, 0);
        }
    }

    private static void shiftPlaces(Held held) {
        String sentence = "PLACE: n, i or j is below 0, or beyond either's end.";
        Run run = held.run(SHIFT, sentence);
        run.row(0, 1, 2, 3, 4, 5);
        run.row(1, 6, 7, 8);
        long[][] wrong = {{-1, 0, 1}, {0, -1, 1}, {0, 0, -1}, {-1, -1, -1}, {-1, 0, 0}, {0, -1, 0}, {-1, 0, 2},
            {0, 0, 4}, {2, 0, 4}, {3, 0, 3}, {4, 0, 2}, {5, 0, 1}, {6, 0, 0}, {0, 1, 3}, {0, 3, 1}, {0, 4, 0},
            {5, 4, 0}, {1, 0, Run.MOST}, {0, 1, Run.MOST}, {0, 0, Run.MOST}, {Run.MOST, 0, 0}, {Run.MOST, 0, 1},
            {0, Run.MOST, 0}, {0, Run.MOST, 1}, {Run.MOST, Run.MOST, Run.MOST}, {Run.LEAST, 0, 0}, {0, Run.LEAST, 0},
            {0, 0, Run.LEAST}, {Run.LEAST, 0, Run.LEAST}, {Run.MOST, 0, Run.LEAST}, {-1, 0, Run.MOST}, {1, 0, -1},
            {0, 1, -1}, {5, 3, -1}, {Run.LEAST, Run.LEAST, Run.LEAST}};
        for (long[] row : wrong) {
            run.refused(Run.PLACE, "shift", 0, row[0], 1, row[1], row[2]);
        }
        run.refused(Run.PLACE, "shift", 1, 0, 0, 3, 3);
        run.refused(Run.PLACE, "shift", 1, 1, 0, 0, 3);
        run.refused(Run.PLACE, "shift", 0, 0, 0, 1, 5);
        run.refused(Run.PLACE, "shift", 0, 1, 0, 0, 5);
        run.items(0, 1, 2, 3, 4, 5);
        run.items(1, 6, 7, 8);
        run.due(0, "shift", 0, 5, 1, 3, 0);
        run.due(3, "shift", 0, 2, 1, 0, 3);
        run.items(1, 3, 4, 5);
    }

    private static void refusals(Held held) {
        Run run = held.run(TERMS, "The host's refusals: NOTHING (-11): nothing is there; CAST (-12): another sort"
            + " or kind; PLACE (-13): no such place; SIZE (-14): a size below 0.");
        run.refused(-11, "item", 0, 0, 0);
        run.refused(-11, "taken", 0, 0);
        run.refused(-11, "shift", 0, 0, 1, 0, 0);
        run.due(1, "tape", 0, 1, 1);
        run.due(1, "tape", 1, 2, 1);
        run.refused(-12, "shift", 0, 0, 1, 0, 0);
        run.file(Made.file(1, Made.RAW));
        run.refused(-12, "taken", 0, 0);
        run.refused(-12, "judge", 0, 0);
        run.refused(-13, "item", 0, 1, 0);
        run.refused(-13, "shift", 0, 0, 0, 0, 2);
        run.refused(-14, "tape", 0, 0, -1);
        run.items(0, 0);
    }

    // ---- what is JUDGED

    private static void judge(Held held) {
        String sentence = "Bytes of THE FILE told by a row of bytes (those above 127 as 256 less), from a place"
            + " on, one by one, are JUDGED: the first that is otherwise (counted from 0 from that place on);";
        Run run = held.run(TERMS, sentence);
        run.file(0, 127, 128, 255);
        run.row(0, 9, 0, 127, -128, -1, 9);
        run.due(-5, "judge", 0, 1);
        run.due(0, "judge", 0, 0);
        int[] right = {0, 127, -128, -1};
        for (int k = 0; k < 4; k++) {
            run.due(1, "item", 0, 1 + k, right[k] + 1);
            run.due(k, "judge", 0, 1);
            run.due(1, "item", 0, 1 + k, right[k] - 1);
            run.due(k, "judge", 0, 1);
            run.due(1, "item", 0, 1 + k, right[k] + 256);
            run.due(-5, "judge", 0, 1);
        }
        run.due(1, "item", 0, 3, 0);
        run.due(1, "item", 0, 4, 0);
        run.due(2, "judge", 0, 1);
        run = held.run("Promise 25", "JUDGED from place i of a TAPE on.");
        run.file(5, 5, 6);
        run.row(5, 5, 5, 5, 6, 5, 5, 6);
        int[] due = {2, -5, 1, 0, -5, 1, 0, 1000};
        for (int i = 0; i < due.length; i++) {
            run.due(due[i], "judge", 5, i);
        }
        run = held.run("Promise 25", "JUDGED from place i of a TAPE on.");
        run.file(Made.filled(60, 7));
        run.row(0, Made.filled(60, 7));
        run.due(-5, "judge", 0, 0);
        run.due(61, "put", 7);
        run.due(1060, "judge", 0, 0);
        run.due(1, "item", 0, 59, 8);
        run.due(59, "judge", 0, 0);
        run.due(0, "judge", 0, 59);
    }

    private static void judgeEnds(Held held) {
        String sentence = "1000 and how many were looked at, if the row ends ahead of that (or the place is below"
            + " 0, or the TAPE holds nothing).";
        Run run = held.run(TERMS, sentence);
        run.file(5, 6, 7);
        run.row(0, 5, 6);
        run.due(1002, "judge", 0, 0);
        run.due(0, "judge", 0, 1);
        run.due(1000, "judge", 0, 2);
        run.due(1000, "judge", 0, 3);
        run.due(1000, "judge", 0, Run.MOST);
        run.due(1000, "judge", 0, Run.MOST - 1);
        run.due(1000, "judge", 0, -1);
        run.due(1000, "judge", 0, Run.LEAST);
        run.due(1000, "judge", 1, 0);
        run.due(1000, "judge", 1, 5);
        run.due(1000, "judge", 1, -1);
        run.row(0, 9, 5);
        run.due(1001, "judge", 0, 1);
        run.row(0);
        run.due(1000, "judge", 0, 0);
        run.due(1000, "judge", 0, -1);
        run.row(0, 5, 6, 7);
        run.due(-5, "judge", 0, 0);
        run.row(0, 5, 6, 7, 8);
        run.due(-5, "judge", 0, 0);
        run.due(1, "tape", 0, -1, 0);
        run.due(1000, "judge", 0, 0);
        run = held.run(TERMS, sentence);
        run.file(Made.filled(120, 0));
        run.row(0, Made.filled(60, 0));
        run.due(1060, "judge", 0, 0);
        run.due(1001, "judge", 0, 59);
        run.due(1000, "judge", 0, 60);
    }

    private static void judgeNothing(Held held) {
        Run run = held.run(TERMS, "-5: none, or THE FILE is empty (wherever the place is, also if the TAPE holds"
            + " nothing);");
        run.row(0, 5);
        for (long i : new long[] {Run.LEAST, -1, 0, 1, 60, Run.MOST}) {
            run.due(-5, "judge", 0, i);
            run.due(-5, "judge", 1, i);
        }
        run.row(0);
        run.due(-5, "judge", 0, 0);
        run.due(1, "put", 5);
        run.due(1000, "judge", 0, 0);
        run.due(1000, "judge", 1, 0);
        run.row(0, 5);
        run.due(-5, "judge", 0, 0);
        run.due(1000, "judge", 0, -1);
        run.due(1, "cut", 0);
        run.due(-5, "judge", 0, -1);
    }

    private static void judgeRefused(Held held) {
        Run run = held.run("Promise 25", "NONE: tape;");
        for (int size = 0; size < 2; size++) {
            for (long tape : NO_TAPES) {
                run.refused(Run.NONE, "judge", tape, 0);
                run.refused(Run.NONE, "judge", tape, -1);
                run.refused(Run.NONE, "judge", tape, Run.MOST);
            }
            run.due(size + 1, "put", 5);
        }
        run.due(1000, "judge", 5, 0);
        run = held.run("Promise 25", "CAST: it is no row of bytes.");
        run.file(0);
        for (int sort = 1; sort < 5; sort++) {
            run.due(1, "tape", sort, sort, 1);
            run.due(1, "tape", 5, sort, 0);
            for (long i : new long[] {Run.LEAST, -1, 0, 1, Run.MOST}) {
                run.refused(Run.CAST, "judge", sort, i);
                run.refused(Run.CAST, "judge", 5, i);
            }
        }
        run.due(1, "tape", 0, 0, 1);
        run.due(-5, "judge", 0, 0);
        // also where THE FILE is empty: what is refused is not looked at
        run.due(1, "cut", 0);
        for (int sort = 1; sort < 5; sort++) {
            run.refused(Run.CAST, "judge", sort, 0);
            run.refused(Run.CAST, "judge", sort, -1);
        }
        run.due(-5, "judge", 0, 0);
    }
}
