/** Promises 21 to 24, 26, 27 and 29, and what the Terms say of PLAN, ENDS, BOOK and IMAGE, at their boundaries. */
final class PlansEdges {
    private static final String TERMS = "Terms 2";
    private static final int NUMBER = Made.NUMBER, RAW = Made.RAW, GROUP = Made.GROUP;
    private static final long[] NO_PLACES = {Run.LEAST, -1, 120, 255, Run.MOST};

    private PlansEdges() {
    }

    static void all(Held held) {
        plan(held);
        planRefused(held);
        whatGoes(held);
        placesThatAreNotThere(held);
        ends(held);
        endsOfFaults(held);
        book(held);
        bookRefused(held);
        looked(held);
        image(held);
        undo(held);
        imageKeeps(held);
        count(held);
    }

    private static void endsAre(Run run, int fault, int recovered) {
        run.due(fault, "ends", 0);
        run.due(recovered, "ends", 1);
    }

    // ---- the PLAN

    private static void plan(Held held) {
        Run run = held.run("Promise 21", "A row comes to the PLAN: how many there are (what -1: it is empty then,"
            + " 0, whatever the rest is).");
        run.due(0, "plan", -1, 0);
        run.due(1, "plan", 0, 0);
        run.due(2, "plan", 1, 119);
        run.due(3, "plan", 2, 60);
        run.due(4, "plan", 2, 60);
        run.due(4, "count", 2);
        for (long n : NO_PLACES) {
            run.due(0, "plan", -1, n);
            run.due(0, "count", 2);
            run.due(1, "plan", 2, 0);
        }
        run.due(0, "plan", -1, 119);
        run.due(0, "plan", -1, 119);
        run.file(67, 70, 1, 0);
        endsAre(run, 0, 0);
        run = held.run(TERMS, "10 rows at most;");
        run.file(Made.file(1, RAW));
        for (int many = 1; many <= 10; many++) {
            run.due(many, "plan", 0, 7);
            endsAre(run, many % 2 == 0 ? 0 : 4, many % 2 == 0 ? 1 : 0);
        }
        run.refused(Run.FULL, "plan", 0, 7);
        endsAre(run, 0, 1);
    }

    private static void planRefused(Held held) {
        Run run = held.run("Promise 21", "NONE: what (0 .. 2);");
        for (int many = 0; many <= 10; many += 5) {
            for (long what : new long[] {Run.LEAST, -2, 3, 4, Run.MOST}) {
                run.refused(Run.NONE, "plan", what, 0);
                run.refused(Run.NONE, "plan", what, 119);
                run.refused(Run.NONE, "plan", what, 120);
                run.refused(Run.NONE, "plan", what, -1);
            }
            for (int k = 1; k <= 5 && many < 10; k++) {
                run.due(many + k, "plan", k % 3, 0);
            }
        }
        run.due(10, "count", 2);
        run = held.run("Promise 21", "BAD: n (0 .. 119);");
        for (int many = 0; many <= 10; many += 5) {
            for (int what = 0; what < 3; what++) {
                for (long n : NO_PLACES) {
                    run.refused(Run.BAD, "plan", what, n);
                }
            }
            for (int k = 1; k <= 5 && many < 10; k++) {
                run.due(many + k, "plan", k % 3, k % 2 * 119);
            }
        }
        run.due(10, "count", 2);
        run = held.run("Promise 21", "FULL: 10.");
        for (int many = 1; many <= 9; many++) {
            run.due(many, "plan", 1, 9);
        }
        run.due(10, "plan", 2, 0);
        for (int what = 0; what < 3; what++) {
            run.refused(Run.FULL, "plan", what, 0);
            run.refused(Run.FULL, "plan", what, 119);
        }
        run.refused(Run.BAD, "plan", 0, 120);
        run.refused(Run.NONE, "plan", 3, 120);
        run.due(10, "count", 2);
        run.due(0, "plan", -1, 0);
        run.due(1, "plan", 0, 0);
    }

    private static void whatGoes(Held held) {
        String sentence = "A PLAN told by hand: what goes (0 byte n of THE FILE is turned about, all its bits; 1"
            + " it is 0; 2 THE FILE ends behind n bytes, if it is longer;";
        Run run = held.run(TERMS, sentence);
        // the byte turned about is its own CHECK alone when it was 170
        run.file(Made.join(Made.file(1, RAW, 85), Made.row(1)));
        run.due(85, "set", 7, 170);
        endsAre(run, 4, 0);
        run.due(1, "plan", 0, 7);
        endsAre(run, 0, 1);
        run.due(2, "plan", 0, 7);
        endsAre(run, 4, 0);
        run.due(3, "plan", 0, 8);
        endsAre(run, 0, 1);
        run.due(170, "at", 7);
        run.due(0, "plan", -1, 0);
        run.due(1, "plan", 1, 7);
        endsAre(run, 4, 0);
        run.due(2, "plan", 1, 8);
        endsAre(run, 0, 1);
        run.due(3, "plan", 0, 8);
        endsAre(run, 4, 0);
        run.due(4, "plan", 1, 8);
        run.due(5, "plan", 1, 8);
        endsAre(run, 0, 1);
        run = held.run(TERMS, sentence);
        run.file(Made.fileOf(1, Made.chunk(1, RAW, 7), Made.chunk(1, RAW)));
        int[] fault = {3, 3, 3, 3, 3, 3, 3, 3, 3, 3, 5, 5, 5, 0, 0, 0};
        int[] recovered = {0, 0, 0, 0, 0, 0, 0, 0, 0, 0, 0, 0, 1, 2, 2, 2};
        for (int n = 0; n < fault.length; n++) {
            run.due(0, "plan", -1, 0);
            run.due(1, "plan", 2, n);
            endsAre(run, fault[n], recovered[n]);
        }
        run.due(0, "plan", -1, 0);
        run.due(1, "plan", 2, 119);
        endsAre(run, 0, 2);
        run.due(2, "plan", 2, 12);
        run.due(3, "plan", 2, 13);
        endsAre(run, 5, 1);
        run.due(4, "plan", 2, 3);
        run.due(5, "plan", 2, 12);
        endsAre(run, 3, 0);
        run.due(13, "count", 0);
        run.whole(2);
    }

    private static void placesThatAreNotThere(Held held) {
        String sentence = "a place that isn't there: nothing):";
        Run run = held.run(TERMS, sentence);
        run.file(Made.file(1, RAW));
        for (int n : new int[] {8, 9, 119}) {
            for (int what = 0; what < 3; what++) {
                run.due(0, "plan", -1, 0);
                run.due(1, "plan", what, n);
                endsAre(run, 0, 1);
            }
        }
        run.due(0, "plan", -1, 0);
        run.due(1, "plan", 0, 7);
        endsAre(run, 4, 0);
        // behind the end that the row ahead has made
        run.due(0, "plan", -1, 0);
        run.due(1, "plan", 2, 4);
        run.due(2, "plan", 1, 3);
        endsAre(run, 0, 0);
        run.due(3, "plan", 0, 4);
        run.due(4, "plan", 1, 4);
        run.due(5, "plan", 0, 7);
        endsAre(run, 0, 0);
        run.due(6, "plan", 2, 0);
        run.due(7, "plan", 0, 0);
        endsAre(run, 3, 0);
        run = held.run(TERMS, sentence);
        for (int what = 0; what < 3; what++) {
            run.due(what + 1, "plan", what, 0);
            endsAre(run, 3, 0);
        }
        run.fileIs();
        run = held.run(TERMS, sentence);
        run.file(ReadingEdges.fullFile());
        run.due(1, "plan", 2, 119);
        endsAre(run, 5, 5);
        run.due(0, "plan", -1, 0);
        run.due(1, "plan", 1, 119);
        endsAre(run, 0, 6);
        run.due(2, "plan", 0, 119);
        endsAre(run, 4, 5);
    }

    private static void ends(Held held) {
        Run run = held.run(TERMS, "ENDS: what THE FAULT is, at its deepest CAUSE (0: none); how many ENTRIES are"
            + " RECOVERED.");
        run.file(Made.fileOf(1, Made.chunk(1, RAW), Made.chunk(1, GROUP, Made.nested(1, 2, Made.chunk(1, RAW, 9))),
            Made.chunk(1, NUMBER, 9)));
        endsAre(run, 0, 3);
        run.due(1, "plan", 1, 20);
        endsAre(run, 4, 2);
        run.due(2, "plan", 1, 4);
        endsAre(run, 6, 1);
        run.due(3, "plan", 2, 25);
        endsAre(run, 5, 0);
        run.due(4, "plan", 0, 3);
        endsAre(run, 5, 0);
        run.due(5, "plan", 1, 3);
        endsAre(run, 0, 0);
        run.due(0, "plan", -1, 0);
        endsAre(run, 0, 3);
        run.due(1, "plan", 0, 2);
        endsAre(run, 2, 0);
        run = held.run("Promise 22", "ENDS: what 0 what THE FAULT is, 1 how many are RECOVERED.");
        endsAre(run, 3, 0);
        run.file(67, 70, 1, 0);
        endsAre(run, 0, 0);
        run.fileNow(ReadingEdges.fullFile());
        endsAre(run, 0, 6);
        run.due(120, "cut", 119);
        endsAre(run, 5, 5);
        run = held.run("Promise 22", "NONE.");
        for (long what : new long[] {Run.LEAST, -1, 2, Run.MOST}) {
            run.refused(Run.NONE, "ends", what);
        }
        run.file(67, 70, 1, 0);
        run.due(1, "plan", 0, 0);
        for (long what : new long[] {Run.LEAST, -1, 2, Run.MOST}) {
            run.refused(Run.NONE, "ends", what);
        }
        endsAre(run, 1, 0);
    }

    private static void endsOfFaults(Held held) {
        Run run = held.run(TERMS, "ENDS: what THE FAULT is, at its deepest CAUSE (0: none); how many ENTRIES are"
            + " RECOVERED.");
        int[][] files = {{66}, {67, 70, 0}, {67}, Made.row(67, 70, 1, 1, RAW, 7, 0, 1), {67, 70, 1, 255},
            Made.file(1, 0), Made.file(1, NUMBER), Made.file(1, GROUP, Made.nested(1, 3))};
        for (int k = 0; k < files.length; k++) {
            run.fileNow(files[k]);
            endsAre(run, k + 1, 0);
        }
    }

    // ---- the BOOK

    private static void book(Held held) {
        Run run = held.run("Promise 23", "A row comes to the BOOK: how many there are (place -1: it is empty then,"
            + " 0, whatever the rest is).");
        run.due(0, "book", -1, 0);
        run.due(1, "book", 0, 0);
        run.due(2, "book", 119, 255);
        run.due(3, "book", 0, 0);
        run.due(3, "count", 3);
        for (long v : Run.NO_BYTES) {
            run.due(0, "book", -1, v);
            run.due(0, "count", 3);
            run.due(-5, "looked");
            run.due(1, "book", 0, 67);
            run.due(0, "looked");
        }
        run.due(0, "book", -1, 255);
        run.due(0, "book", -1, 255);
        run = held.run("Promise 23", "FULL: 8.");
        for (int many = 1; many <= 8; many++) {
            run.due(many, "book", 119, 255);
        }
        run.refused(Run.FULL, "book", 119, 255);
        run.refused(Run.FULL, "book", 0, 0);
        run.refused(Run.BAD, "book", 120, 0);
        run.refused(Run.BAD, "book", 0, 256);
        run.due(8, "count", 3);
        run.due(0, "book", -1, 0);
        run.due(1, "book", 0, 0);
        run = held.run(TERMS, "A BOOK told by hand: places, bytes (8 at most):");
        run.file(10, 11, 12, 13, 14, 15, 16, 17);
        for (int many = 1; many <= 8; many++) {
            run.due(many, "book", many - 1, 9 + many);
            run.due(-5, "looked");
        }
        run.refused(Run.FULL, "book", 0, 0);
        run.due(-5, "looked");
        for (int row = 7; row >= 0; row--) {
            run.due(10 + row, "set", row, 0);
            run.due(row, "looked");
        }
    }

    private static void bookRefused(Held held) {
        Run run = held.run("Promise 23", "BAD: place (0 .. 119), v (0 .. 255);");
        for (int many = 0; many <= 8; many += 4) {
            for (long place : new long[] {Run.LEAST, -2, 120, 255, Run.MOST}) {
                run.refused(Run.BAD, "book", place, 0);
                run.refused(Run.BAD, "book", place, 256);
            }
            for (long v : Run.NO_BYTES) {
                run.refused(Run.BAD, "book", 0, v);
                run.refused(Run.BAD, "book", 119, v);
            }
            run.due(many, "count", 3);
            for (int k = 1; k <= 4 && many < 8; k++) {
                run.due(many + k, "book", k % 2 * 119, k > 2 ? 255 : 0);
            }
        }
        run.due(8, "count", 3);
    }

    private static void looked(Held held) {
        String sentence = "LOOKED at: the number (from 0) of the first of these rows by which it is otherwise now"
            + " (no such place, too; -5: none).";
        Run run = held.run(TERMS, sentence);
        run.due(-5, "looked");
        run.due(1, "book", 0, 0);
        run.due(0, "looked");
        run.due(1, "put", 0);
        run.due(-5, "looked");
        run.due(2, "book", 1, 255);
        run.due(1, "looked");
        run.due(2, "put", 254);
        run.due(1, "looked");
        run.due(254, "set", 1, 255);
        run.due(-5, "looked");
        run.due(3, "book", 0, 1);
        run.due(2, "looked");
        run.due(0, "set", 0, 1);
        run.due(0, "looked");
        run.due(2, "cut", 1);
        run.due(0, "looked");
        run.due(1, "set", 0, 0);
        run.due(1, "looked");
        run = held.run("Promise 24", "LOOKED at; -5.");
        run.file(Made.filled(120, 5));
        run.due(-5, "looked");
        run.due(1, "book", 119, 5);
        run.due(-5, "looked");
        run.due(120, "cut", 119);
        run.due(0, "looked");
        run.due(120, "put", 5);
        run.due(-5, "looked");
        run.due(5, "set", 119, 4);
        run.due(0, "looked");
        // the PLAN does not go over what is LOOKED at
        run.due(4, "set", 119, 5);
        run.due(1, "plan", 1, 119);
        run.due(-5, "looked");
    }

    // ---- THE IMAGE

    private static void image(Held held) {
        Run run = held.run("Promise 26", "THE IMAGE is taken: how many bytes THE FILE has.");
        run.due(0, "image");
        run.due(1, "put", 5);
        run.due(1, "image");
        run.due(2, "put", 6);
        run.due(2, "image");
        run.due(2, "cut", 0);
        run.due(2, "undo");
        run.fileIs(5, 6);
        run.due(2, "image");
        run = held.run("Promise 26", "THE IMAGE is taken: how many bytes THE FILE has.");
        run.file(Made.filled(120, 9));
        run.due(120, "image");
        run.due(120, "cut", 0);
        run.due(120, "undo");
        run.refused(Run.FULL, "put", 9);
        run.due(9, "at", 119);
    }

    private static void undo(Held held) {
        Run run = held.run("Promise 27", "STATE: there is none.");
        run.refused(Run.STATE, "undo");
        run.file(5, 6);
        run.due(1, "see", 0, 5);
        run.due(1, "plan", 0, 0);
        run.due(1, "book", 0, 5);
        run.refused(Run.STATE, "undo");
        run.fileIs(5, 6);
        run.due(2, "image");
        run.due(2, "undo");
        run = held.run("Promise 27", "All is as THE IMAGE: how many bytes.");
        run.due(0, "image");
        run.file(5, 6, 7);
        run.due(0, "undo");
        run.fileIs();
        run.file(5, 6, 7);
        run.due(3, "image");
        run.due(7, "set", 2, 8);
        run.due(4, "put", 9);
        run.due(3, "undo");
        run.fileIs(5, 6, 7);
        run.due(3, "cut", 1);
        run.due(5, "set", 0, 1);
        run.due(3, "undo");
        run.fileIs(5, 6, 7);
        run.text("num 5");
        run.due(9, "write", 1);
        run.due(3, "undo");
        run.fileIs(5, 6, 7);
    }

    private static void imageKeeps(Held held) {
        String sentence = "THE IMAGE: THE FILE, SEEN, the PLAN, the BOOK.";
        Run run = held.run(TERMS, sentence);
        run.file(67, 70, 1, 0);
        rows(run, 1);
        run.due(4, "image");
        rows(run, 0);
        run.due(1, "see", 2, 9);
        run.due(1, "plan", 0, 0);
        run.due(2, "plan", 0, 0);
        run.due(1, "book", 0, 9);
        run.due(2, "book", 0, 9);
        run.due(0, "fits", 1);
        run.due(0, "looked");
        run.due(4, "undo");
        for (int what = 1; what < 4; what++) {
            run.due(1, "count", what);
        }
        run.due(1, "fits", 1);
        run.due(0, "fits", 2);
        run.due(5, "ends", 0);
        run.due(-5, "looked");
        run = held.run(TERMS, sentence);
        // full rows come back, and empty ones
        run.due(0, "image");
        for (int k = 1; k <= 10; k++) {
            run.due(Math.min(k, 5), k <= 5 ? "see" : "count", k <= 5 ? new long[] {k, k} : new long[] {1});
            run.due(k, "plan", 1, k);
            run.due(Math.min(k, 8), k <= 8 ? "book" : "count", k <= 8 ? new long[] {k, k} : new long[] {3});
        }
        run.due(0, "undo");
        run.due(0, "count", 1);
        run.due(0, "count", 2);
        run.due(0, "count", 3);
        run = held.run(TERMS, sentence);
        fullRows(run);
        run.due(0, "image");
        rows(run, 0);
        run.due(0, "undo");
        run.refused(Run.FULL, "see", 0, 0);
        run.refused(Run.FULL, "plan", 0, 0);
        run.refused(Run.FULL, "book", 0, 0);
        run.file(100, 101, 102, 103, 104, 105, 106);
        run.due(7, "looked");
        run = held.run(TERMS, sentence);
        // neither THE TEXT nor TAPES are of it
        run.text("num");
        run.row(0, 1, 2);
        run.due(0, "image");
        run.due(4, "feed", ' ');
        run.due(5, "feed", '7');
        run.due(1, "item", 0, 0, 9);
        run.row(1, 3);
        run.due(0, "undo");
        run.due(5, "count", 4);
        run.items(0, 9, 2);
        run.items(1, 3);
        run.due(9, "write", 1);
    }

    private static void rows(Run run, int many) {
        run.due(0, "see", -1, 0);
        run.due(0, "plan", -1, 0);
        run.due(0, "book", -1, 0);
        for (int k = 1; k <= many; k++) {
            run.due(k, "see", 2, 1);
            run.due(k, "plan", 0, 3);
            run.due(k, "book", 0, 67);
        }
    }

    private static void fullRows(Run run) {
        for (int k = 1; k <= 5; k++) {
            run.due(k, "see", k, k);
        }
        for (int k = 1; k <= 10; k++) {
            run.due(k, "plan", 2, k);
        }
        for (int k = 1; k <= 8; k++) {
            run.due(k, "book", k - 1, 99 + k);
        }
    }

    private static void count(Held held) {
        String sentence = "How many: 0 bytes of THE FILE, 1 SEEN, 2 of the PLAN, 3 of the BOOK, 4 bytes of THE"
            + " TEXT.";
        Run run = held.run("Promise 29", sentence);
        for (int what = 0; what < 5; what++) {
            run.due(0, "count", what);
        }
        run.file(1, 2, 3);
        run.due(1, "see", 0, 0);
        run.due(2, "see", 0, 0);
        fullBook(run);
        run.due(1, "plan", 0, 0);
        run.text("abcd");
        int[] counts = {3, 2, 1, 8, 4};
        for (int what = 0; what < 5; what++) {
            run.due(counts[what], "count", what);
        }
        run = held.run("Promise 29", sentence);
        run.text("a".repeat(100));
        run.file(Made.filled(120, 1));
        run.due(100, "count", 4);
        run.due(120, "count", 0);
        run = held.run("Promise 29", "BAD.");
        run.file(1);
        run.text("ab");
        for (long what : new long[] {Run.LEAST, -1, 5, 6, Run.MOST}) {
            run.refused(Run.BAD, "count", what);
        }
        run.due(1, "count", 0);
        run.due(2, "count", 4);
    }

    private static void fullBook(Run run) {
        for (int k = 1; k <= 8; k++) {
            run.due(k, "book", 0, 1);
        }
    }
}
