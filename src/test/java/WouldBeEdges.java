/** Promises 14 to 20, and what the Terms say of MENDS, FLIPS, ODDS, MEAN, AS, SEEN and FITS, at their boundaries. */
final class WouldBeEdges {
    private static final String TERMS = "Terms 2";
    private static final int NUMBER = Made.NUMBER, WORDS = Made.WORDS, RAW = Made.RAW, GROUP = Made.GROUP;
    private static final long[] NO_PARTS = {Run.LEAST, -1, 2, Run.MOST};

    private WouldBeEdges() {
    }

    static void all(Held held) {
        mends(held);
        mendsRefused(held);
        flips(held);
        odds(held);
        mean(held);
        meanOfMany(held);
        as(held);
        asRefused(held);
        see(held);
        fits(held);
        fitsBehindTheEnd(held);
    }

    private static void mendsAre(Run run, int place, int many, int least) {
        run.due(many, "mends", place, 0);
        run.due(least, "mends", place, 1);
    }

    private static void mends(Held held) {
        String sentence = "MENDS of a place: how many bytes 0 .. 255 there are by which, were that there, THE FILE"
            + " would be READ without FAULT; the least (-5: none).";
        Run run = held.run(TERMS, sentence);
        run.file(67, 70, 1, 0);
        mendsAre(run, 0, 1, 67);
        mendsAre(run, 1, 1, 70);
        mendsAre(run, 2, 3, 1);
        mendsAre(run, 3, 1, 0);
        run.due(5, "put", 9);
        mendsAre(run, 4, 256, 0);
        mendsAre(run, 3, 1, 0);
        // what is there now does not matter
        run.due(67, "set", 0, 255);
        mendsAre(run, 0, 1, 67);
        mendsAre(run, 1, 0, -5);
        mendsAre(run, 4, 0, -5);
        run.fileIs(255, 70, 1, 0, 9);
        run = held.run(TERMS, sentence);
        // the least that there can be, and the greatest
        run.file(Made.file(1, RAW, 255));
        mendsAre(run, 8, 1, 255);
        mendsAre(run, 7, 1, 255);
        run.due(255, "set", 8, 0);
        mendsAre(run, 8, 1, 255);
        mendsAre(run, 7, 1, 0);
        run.fileNow(Made.file(1, WORDS, 65));
        mendsAre(run, 4, 3, NUMBER);
        run.due(65, "set", 8, 31);
        mendsAre(run, 8, 1, 65);
        mendsAre(run, 7, 0, -5);
        run = held.run("Promise 14", "MENDS of a place: what 0 how many, 1 the least; -5.");
        run.file(Made.file(3, NUMBER, 200, 100));
        int check = Made.check(3, 200, 100);
        mendsAre(run, 9, 1, check);
        mendsAre(run, 3, 2, 0);
        mendsAre(run, 4, 2, NUMBER);
        run.due(3, "set", 2, 0);
        mendsAre(run, 9, 0, -5);
        mendsAre(run, 2, 1, 3);
        run.fileNow(ReadingEdges.fullFile());
        mendsAre(run, 119, 1, 0);
        run.due(120, "cut", 119);
        mendsAre(run, 118, 0, -5);
        // fewer ENTRIES, and the one that is not there any more is not READ
        mendsAre(run, 3, 6, 0);
    }

    private static void mendsRefused(Held held) {
        Run run = held.run("Promise 14", "NONE.");
        run.refused(Run.NONE, "mends", 0, 0);
        run.refused(Run.NONE, "mends", 0, 1);
        run.refused(Run.NONE, "mends", -1, 0);
        run.file(67, 70, 1, 0);
        for (long place : new long[] {Run.LEAST, -1, 4, 119, 120, Run.MOST}) {
            run.refused(Run.NONE, "mends", place, 0);
            run.refused(Run.NONE, "mends", place, 1);
            run.refused(Run.NONE, "mends", place, 2);
        }
        for (long what : NO_PARTS) {
            run.refused(Run.NONE, "mends", 0, what);
            run.refused(Run.NONE, "mends", 3, what);
        }
        mendsAre(run, 3, 1, 0);
        run = held.run("Promise 14", "NONE.");
        run.file(ReadingEdges.fullFile());
        run.refused(Run.NONE, "mends", 120, 0);
        run.due(1, "mends", 119, 0);
    }

    private static void flips(Held held) {
        String sentence = "FLIPS: of all bits of all bytes of THE FILE, each turned about alone: by how many it"
            + " has a FAULT then.";
        Run run = held.run(TERMS, sentence);
        run.due(0, "flips");
        run.file(67);
        run.due(8, "flips");
        run.due(2, "put", 70);
        run.due(16, "flips");
        run.due(3, "put", 1);
        run.due(24, "flips");
        run.due(4, "put", 0);
        run.due(8 + 8 + 7 + 8, "flips");
        run.due(1, "set", 2, 2);
        run.due(8 + 8 + 7 + 8, "flips");
        run.due(2, "set", 2, 3);
        run.due(8 + 8 + 6 + 8, "flips");
        run.due(5, "put", 255);
        run.due(8 + 8 + 6 + 8, "flips");
        run = held.run(TERMS, sentence);
        // one bit alone is wrong: that one mends it
        int[] file = {67, 70, 1, 0};
        run.file(file);
        for (int place = 0; place < 4; place++) {
            for (int bit = 0; bit < 8; bit++) {
                int wrong = file[place] ^ 1 << bit;
                run.due(file[place], "set", place, wrong);
                run.due(32 - mendingFlips(place, wrong), "flips");
                run.due(wrong, "set", place, file[place]);
            }
        }
        run = held.run("Promise 15", "FLIPS.");
        run.due(0, "flips");
        run.file(Made.filled(120, 0));
        run.due(960, "flips");
        run.due(120, "cut", 4);
        run.due(0, "set", 0, 67);
        run.due(0, "set", 1, 70);
        run.due(32 - 2, "flips");
        run.due(0, "set", 2, 3);
        run.due(30, "flips");
        run.due(4, "cut", 0);
        run.due(0, "flips");
    }

    /** By how many bits, each turned about alone, a head without ENTRIES with that one wrong byte becomes whole. */
    private static int mendingFlips(int place, int wrong) {
        int many = 0;
        for (int bit = 0; bit < 8; bit++) {
            int now = wrong ^ 1 << bit;
            boolean isWhole = place == 0 ? now == 67 : place == 1 ? now == 70 : place == 2 ? now >= 1 && now <= 3
                : now == 0;
            many += isWhole ? 1 : 0;
        }
        return many;
    }

    private static void odds(Held held) {
        String sentence = "ODDS: FLIPS by how many bits there are: a fraction in lowest terms (NO: THE FILE is"
            + " empty).";
        Run run = held.run(TERMS, sentence);
        run.refused(Run.NO, "odds", 0);
        run.refused(Run.NO, "odds", 1);
        run.file(67);
        fraction(run, "odds", 1, 1);
        run.due(2, "put", 70);
        run.due(3, "put", 1);
        run.due(4, "put", 0);
        fraction(run, "odds", 31, 32);
        run.due(1, "set", 2, 3);
        fraction(run, "odds", 15, 16);
        run.due(5, "put", 0);
        fraction(run, "odds", 3, 4);
        run.due(5, "cut", 0);
        run.refused(Run.NO, "odds", 0);
        run.refused(Run.NO, "odds", 1);
        run = held.run("Promise 19", "ODDS; part 0 above, 1 below the line.");
        run.file(Made.join(Made.row(67, 70, 1, 0), Made.filled(116, 7)));
        fraction(run, "odds", 31, 960);
        run.due(1, "set", 2, 3);
        fraction(run, "odds", 1, 32);
        run.due(0, "set", 3, 9);
        // 9 is two bits off 0: none mends
        fraction(run, "odds", 1, 1);
        run.due(9, "set", 3, 8);
        fraction(run, "odds", 959, 960);
        run = held.run("Promise 19", "NO: part.");
        for (long part : NO_PARTS) {
            run.refused(Run.NO, "odds", part);
        }
        run.file(67, 70, 1, 0);
        for (long part : NO_PARTS) {
            run.refused(Run.NO, "odds", part);
        }
        fraction(run, "odds", 31, 32);
    }

    private static void fraction(Run run, String call, long above, long below) {
        run.due(above, call, 0);
        run.due(below, call, 1);
    }

    private static void mean(Held held) {
        String sentence = "MEAN: NUMBERS in all THINGS of THE FILE, those in GROUPS, too, together, by how many"
            + " they are: a fraction in lowest terms (may be below 0; below the line it is above 0; NO: there are"
            + " none, or there is a FAULT).";
        Run run = held.run(TERMS, sentence);
        run.refused(Run.NO, "mean", 0);
        run.file(67, 70, 1, 0);
        run.refused(Run.NO, "mean", 0);
        run.refused(Run.NO, "mean", 1);
        run.text("str a;raw 7;set();set(raw 1)");
        run.due(4 + 12 + 2 + 2 + 1 + 5, "write", 1);
        run.refused(Run.NO, "mean", 0);
        run.refused(Run.NO, "mean", 1);
        String[] texts = {"num 0", "num -1", "num 5;num -5", "num 1;num 2", "num -1;num -2", "num 2;num 4",
            "set(num 3)", "num 1;set(num 2;set(num 4;set(num 9)));str a", "num -3;num 1;num 1"};
        int[] above = {0, -1, 0, 3, -3, 3, 3, 4, -1};
        int[] below = {1, 1, 1, 2, 2, 1, 1, 1, 3};
        for (int k = 0; k < texts.length; k++) {
            if (k % 3 == 0) {
                run = held.run(TERMS, sentence);
            }
            run.text(texts[k]);
            run.due(Made.lengthOf(texts[k]), "write", 2);
            fraction(run, "mean", above[k], below[k]);
        }
        run.due(67, "set", 0, 0);
        run.refused(Run.NO, "mean", 0);
        run.refused(Run.NO, "mean", 1);
        // NUMBERS that stand ahead of the FAULT do not count either
        for (int[] wrong : new int[][] {Made.row(NUMBER, 1, 5, 6), Made.chunk(2, 9), Made.chunk(2, GROUP, Made.join(
            Made.chunk(2, NUMBER, 5), Made.chunk(2, WORDS, 31)))}) {
            run = held.run(TERMS, sentence);
            run.file(Made.fileOf(2, Made.chunk(2, NUMBER, 5), Made.chunk(2, GROUP, Made.chunk(2, NUMBER, 7)), wrong));
            run.refused(Run.NO, "mean", 0);
            run.refused(Run.NO, "mean", 1);
            asIs(run, -5, -5);
            run.due(-5, "fits", 2);
            run.due(3, "set", 3, 2);
            fraction(run, "mean", 6, 1);
        }
        run = held.run("Promise 20", "MEAN; part likewise.");
        run.text("num 7;num -14;num 1");
        run.due(4 + 9 + 6, "write", 1);
        fraction(run, "mean", -2, 1);
        run = held.run("Promise 20", "NO.");
        for (long part : NO_PARTS) {
            run.refused(Run.NO, "mean", part);
        }
        run.text("num 7");
        run.due(9, "write", 1);
        for (long part : NO_PARTS) {
            run.refused(Run.NO, "mean", part);
        }
        fraction(run, "mean", 7, 1);
        run.due(7, "set", 8, 8);
        run.refused(Run.NO, "mean", 0);
        run.refused(Run.NO, "mean", 1);
    }

    private static void meanOfMany(Held held) {
        String sentence = "MEAN: NUMBERS in all THINGS of THE FILE, those in GROUPS, too, together, by how many"
            + " they are:";
        Run run = held.run(TERMS, sentence);
        // as many NUMBERS as there can be
        int[] four = Made.chunk(1, GROUP, Made.times(4, Made.chunk(1, NUMBER, 1)));
        int[] three = Made.chunk(1, GROUP,
            Made.join(Made.times(2, Made.chunk(1, NUMBER, 1)), Made.chunk(1, NUMBER, 2)));
        run.file(Made.fileOf(1, four, four, four, four, four, three));
        run.due(120, "count", 0);
        run.whole(6);
        fraction(run, "mean", 24, 23);
        run = held.run(TERMS, sentence);
        // together more than an int holds, below 0 and above
        int[] most = Made.chunk(2, NUMBER, 127, 255, 255, 255);
        int[] least = Made.chunk(2, NUMBER, 128, 0, 0, 0);
        run.file(Made.fileOf(2, most, most, Made.chunk(2, NUMBER, 127, 255, 255, 254)));
        fraction(run, "mean", 3L * Integer.MAX_VALUE - 1, 3);
        run.fileNow(Made.fileOf(2, least, least, Made.chunk(2, NUMBER, 128, 0, 0, 1)));
        fraction(run, "mean", 3L * Integer.MIN_VALUE + 1, 3);
        run.fileNow(Made.fileOf(2, most, least));
        fraction(run, "mean", -1, 2);
        run.fileNow(Made.file(2, GROUP, Made.join(Made.times(6, least))));
        fraction(run, "mean", Integer.MIN_VALUE, 1);
        run.fileNow(Made.file(2, GROUP, Made.times(6, most)));
        fraction(run, "mean", Integer.MAX_VALUE, 1);
    }

    private static void as(Held held) {
        String sentence = "AS a VERSION: how long THE FILE would be, were its THINGS WRITTEN by that (-5: a"
            + " FAULT); whether what comes is READ as the same THINGS, always 1 (-5: a FAULT).";
        Run run = held.run(TERMS, sentence);
        run.file(67, 70, 1, 0);
        asIs(run, 4, 1);
        run.due(5, "put", 9);
        asIs(run, 4, 1);
        // bytes between, and NUMBERS longer than they need be, are not WRITTEN
        run.fileNow(67, 70, 3, 1, NUMBER, 9, 4, 9, 9, 0, 0, 0, 5, 5);
        asIs(run, 9, 1);
        run.due(5, "set", 13, 6);
        asIs(run, -5, -5);
        run.fileNow();
        asIs(run, -5, -5);
        run = held.run(TERMS, sentence);
        run.file(Made.fileOf(1, Made.chunk(1, GROUP, Made.join(Made.chunk(1, NUMBER, 0, 0, 0, 128),
            Made.nested(1, 1, Made.chunk(1, NUMBER, 255, 255))))));
        asIs(run, 4 + 3 + 1 + 5 + 7, 1);
        run.fileNow(ReadingEdges.fullFile());
        asIs(run, 120, 1);
        run.due(120, "cut", 119);
        asIs(run, -5, -5);
        run = held.run("Promise 16", "AS a VERSION: what 0 how long (-5), 1 whether the same (-5).");
        run.text("num 7;set(num -300;raw 1,2);str ab");
        run.due(4 + 9 + 2 + 11 + 3, "write", 3);
        asIs(run, 29, 1);
        run.due(7, "set", 13, 6);
        asIs(run, -5, -5);
        run.due(6, "set", 13, 7);
        asIs(run, 29, 1);
    }

    private static void asIs(Run run, int length, int same) {
        for (int version = 1; version <= 3; version++) {
            run.due(length, "as", version, 0);
            run.due(same, "as", version, 1);
        }
    }

    private static void asRefused(Held held) {
        for (int[] file : new int[][] {{}, {67, 70, 1, 0}}) {
            Run run = held.run("Promise 16", "NONE.");
            run.file(file);
            for (long version : Run.NO_VERSIONS) {
                run.refused(Run.NONE, "as", version, 0);
                run.refused(Run.NONE, "as", version, 1);
                run.refused(Run.NONE, "as", version, 2);
            }
            for (long what : NO_PARTS) {
                run.refused(Run.NONE, "as", 1, what);
                run.refused(Run.NONE, "as", 3, what);
                run.refused(Run.NONE, "as", 0, what);
            }
            run.due(file.length == 0 ? -5 : 4, "as", 3, 0);
        }
    }

    private static void see(Held held) {
        Run run = held.run("Promise 17", "What is SEEN comes: how many there are (place -1: none then, 0, whatever"
            + " the rest is).");
        run.due(0, "see", -1, 0);
        run.due(1, "see", 0, 0);
        run.due(2, "see", 119, 255);
        run.due(3, "see", 0, 0);
        run.due(3, "count", 1);
        for (long v : Run.NO_BYTES) {
            run.due(0, "see", -1, v);
            run.due(0, "count", 1);
            run.due(1, "see", 0, 67);
        }
        run.due(2, "see", 1, 70);
        run.due(0, "see", -1, 0);
        run.due(0, "see", -1, 255);
        run = held.run("Promise 17", "BAD: place (0 .. 119), v (0 .. 255);");
        for (int many = 0; many <= 5; many++) {
            for (long place : new long[] {Run.LEAST, -2, 120, 255, Run.MOST}) {
                run.refused(Run.BAD, "see", place, 0);
                run.refused(Run.BAD, "see", place, 256);
            }
            for (long v : Run.NO_BYTES) {
                run.refused(Run.BAD, "see", 0, v);
                run.refused(Run.BAD, "see", 119, v);
            }
            run.due(many, "count", 1);
            if (many < 5) {
                run.due(many + 1, "see", many % 2 * 119, many % 3 == 0 ? 0 : 255);
            }
        }
        run = held.run("Promise 17", "FULL: 5.");
        for (int many = 1; many <= 5; many++) {
            run.due(many, "see", 0, 67);
        }
        run.refused(Run.FULL, "see", 0, 67);
        run.refused(Run.FULL, "see", 119, 255);
        run.refused(Run.BAD, "see", 120, 0);
        run.due(5, "count", 1);
        run.file(67, 70, 1, 0);
        run.due(1, "fits", 1);
        run.due(0, "see", -1, 67);
        run.due(1, "see", 0, 67);
        run = held.run(TERMS, "SEEN told by hand: a place, a byte (5 rows at most).");
        run.file(67, 70, 1, 0);
        for (int place = 0; place < 4; place++) {
            run.due(place + 1, "see", place, new int[] {67, 70, 3, 0}[place]);
        }
        run.due(5, "see", 0, 67);
        run.due(1, "fits", 3);
        run.refused(Run.FULL, "see", 0, 0);
        run.due(1, "fits", 3);
    }

    private static void fits(Held held) {
        String sentence = "FITS of a VERSION: whether, were the THINGS of THE FILE WRITTEN by it, all of SEEN"
            + " would be so (a place behind its end: not so; -5: a FAULT).";
        Run run = held.run(TERMS, sentence);
        run.file(Made.fileOf(1, Made.chunk(1, RAW, 200, 100), Made.chunk(1, NUMBER, 0, 5)));
        for (int version = 1; version <= 3; version++) {
            run.due(1, "fits", version);
        }
        // each of the five rows, wrong alone
        int[] places = {2, 10, 12, 9, 13};
        int[] bytes = {2, 200, 200 ^ 100, 1, 5};
        for (int wrong = -1; wrong < 5; wrong++) {
            run.due(0, "see", -1, 0);
            for (int k = 0; k < 5; k++) {
                run.due(k + 1, "see", places[k], k == wrong ? bytes[k] + 1 : bytes[k]);
            }
            run.due(wrong < 0 ? 1 : 0, "fits", 2);
            run.due(0, "fits", 1);
            run.due(0, "fits", 3);
        }
        run.due(70, "set", 1, 71);
        for (int version = 1; version <= 3; version++) {
            run.due(-5, "fits", version);
        }
        run.fileNow();
        run.due(-5, "fits", 2);
        run.due(0, "see", -1, 0);
        run.due(-5, "fits", 2);
        run = held.run("Promise 18", "FITS (1, 0; -5).");
        run.due(-5, "fits", 1);
        run.file(67, 70, 1, 0);
        run.due(1, "fits", 1);
        run.due(1, "see", 3, 1);
        run.due(0, "fits", 1);
        run.due(0, "see", -1, 0);
        run.due(1, "see", 3, 0);
        run.due(1, "fits", 1);
        run.due(2, "see", 3, 255);
        run.due(0, "fits", 1);
        for (int[] file : new int[][] {{}, {67, 70, 1, 0}}) {
            run = held.run("Promise 18", "NONE: version.");
            run.file(file);
            for (long version : Run.NO_VERSIONS) {
                run.refused(Run.NONE, "fits", version);
            }
            run.due(file.length == 0 ? -5 : 1, "fits", 3);
        }
    }

    private static void fitsBehindTheEnd(Held held) {
        String sentence = "(a place behind its end: not so; -5: a FAULT).";
        Run run = held.run(TERMS, sentence);
        run.file(67, 70, 1, 1, RAW, 9, 0, 55, 55, 0, 66);
        run.due(1, "see", 7, 0);
        run.due(1, "fits", 1);
        for (int place = 8; place < 120; place += 37) {
            for (int v : new int[] {0, 66, 255}) {
                run.due(0, "see", -1, 0);
                run.due(1, "see", place, v);
                run.due(0, "fits", 1);
            }
        }
        run.fileNow(ReadingEdges.fullFile());
        run.due(0, "see", -1, 0);
        run.due(1, "see", 119, 0);
        run.due(1, "fits", 1);
        run.due(2, "see", 119, 1);
        run.due(0, "fits", 1);
    }
}
