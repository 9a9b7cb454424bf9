/** Promises 9 to 13 and 28, and what the Terms say of SHOWN, at their boundaries. */
final class ReadingEdges {
    private static final String FAULT = "Promise 10", THING = "Promise 12", SHOWN = "Terms 2";
    private static final int NUMBER = Made.NUMBER, WORDS = Made.WORDS, RAW = Made.RAW, GROUP = Made.GROUP;
    /** A whole file of 120 bytes: THINGS of every sort but NUMBERS. */
    private static final int[] FULL_FILE = Made.fileOf(3, Made.chunk(3, RAW, Made.filled(20, 255)),
        Made.chunk(3, RAW, Made.filled(20, 0)), Made.chunk(3, WORDS, Made.filled(20, 126)),
        Made.chunk(3, WORDS, Made.filled(20, 32)), Made.chunk(3, GROUP, Made.chunk(3, RAW, Made.filled(9, 1))),
        Made.chunk(3, RAW));

    private ReadingEdges() {
    }

    static int[] fullFile() {
        return FULL_FILE.clone();
    }

    static void all(Held held) {
        read(held);
        fault(held);
        faultRefused(held);
        recovered(held);
        thing(held);
        thingRefused(held);
        shown(held);
        shownOfSorts(held);
        taken(held);
        asksChangeNothing(held);
    }

    private static void read(Held held) {
        String sentence = "How many THINGS THE FILE has, READ whole; -100 less what THE FAULT is, at its deepest"
            + " CAUSE.";
        Run run = held.run("Promise 9", sentence);
        run.due(-103, "read");
        run.file(67, 70, 1);
        run.due(-103, "read");
        run.due(4, "put", 0);
        run.due(0, "read");
        run.due(0, "set", 3, 7);
        run.due(-105, "read");
        run.fileNow(FULL_FILE);
        run.due(120, "count", 0);
        run.due(6, "read");
        run.due(120, "cut", 119);
        run.due(-105, "read");
        run = held.run("Promise 9", sentence);
        int[][] files = {{66}, {67, 70, 0}, {67}, Made.row(67, 70, 1, 1, RAW, 7, 0, 1), {67, 70, 1, 255},
            Made.file(1, 0), Made.file(1, NUMBER), Made.file(1, GROUP, Made.nested(1, 3))};
        for (int k = 0; k < files.length; k++) {
            run.fileNow(files[k]);
            run.due(-101 - k, "read");
        }
        run.fileNow(Made.fileOf(1, Made.chunk(1, RAW), Made.chunk(1, GROUP, Made.chunk(1, GROUP))));
        run.due(2, "read");
    }

    private static void fault(Held held) {
        String sentence = "Of THE FAULT (k 0), its CAUSE (1), and so on: what (what 0), LAYER (1), place (2); -5:"
            + " there is none such.";
        Run run = held.run(FAULT, sentence);
        run.file(Made.file(1, GROUP, Made.nested(1, 3)));
        run.faults(9, 0, 0, 9, 1, 4, 9, 2, 7, 9, 3, 9, 9, 4, 11, 8, 5, 11);
        for (int what = 0; what < 3; what++) {
            run.due(-5, "fault", 6, what);
            run.due(-5, "fault", 7, what);
            run.due(-5, "fault", Run.MOST, what);
            run.due(-5, "fault", Run.MOST - 5, what);
        }
        run.due(103, "set", 4, RAW);
        run.whole(1);
        run.due(-5, "fault", Run.MOST, 0);
        run.fileNow();
        run.faults(3, 0, 0);
        run.due(-5, "fault", 1, 0);
        run.due(-5, "fault", 1, 2);
        run.fileNow(67, 70, 1, 1, RAW, 6, 0, 0);
        run.faults(9, 0, 0, 5, 1, 5);
        run.due(-5, "fault", 2, 1);
    }

    private static void faultRefused(Held held) {
        for (int[] file : new int[][] {{}, {66}, {67, 70, 1, 0}, Made.file(1, GROUP, Made.nested(1, 3))}) {
            Run run = held.run(FAULT, "NONE: what, k is below 0.");
            run.file(file);
            for (long k : new long[] {Run.LEAST, -1}) {
                for (int what = 0; what < 3; what++) {
                    run.refused(Run.NONE, "fault", k, what);
                }
                run.refused(Run.NONE, "fault", k, 3);
                run.refused(Run.NONE, "fault", k, -1);
            }
            for (long what : new long[] {Run.LEAST, -1, 3, Run.MOST}) {
                for (long k : new long[] {0, 1, 5, 6, Run.MOST}) {
                    run.refused(Run.NONE, "fault", k, what);
                }
            }
        }
    }

    private static void recovered(Held held) {
        String sentence = "Which ENTRIES are RECOVERED (bits; 0, if LAYER 0 has another FAULT than WITHIN).";
        Run run = held.run("Promise 11", sentence);
        run.due(0, "recovered");
        run.file(FULL_FILE);
        run.due(63, "recovered");
        run.due(120, "cut", 119);
        run.due(31, "recovered");
        run.due(103, "set", 16, 9);
        run.due(15, "recovered");
        run.due(255, "set", 22, 0);
        run.due(14, "recovered");
        run.due(20, "set", 12, 98);
        run.due(10, "recovered");
        run.due(67, "set", 0, 0);
        run.due(0, "recovered");
        run.due(0, "set", 0, 67);
        run.due(70, "set", 1, 0);
        run.due(0, "recovered");
        run.due(0, "set", 1, 70);
        run.due(3, "set", 2, 0);
        run.due(0, "recovered");
        run.due(0, "set", 2, 3);
        run.due(10, "recovered");
        run.due(6, "set", 3, 7);
        run.due(0, "recovered");
        run = held.run("Promise 11", sentence);
        // an ENTRY that is not told whole is LAYER 0's, and leaves none
        run.file(67, 70, 1, 1, RAW, 7, 0, 0, 0);
        run.due(1, "recovered");
        run.due(1, "set", 3, 2);
        run.due(0, "recovered");
        run.due(10, "put", 0);
        run.due(0, "recovered");
        run.due(2, "set", 3, 0);
        run.due(0, "recovered");
        run.whole(0);
    }

    private static void thing(Held held) {
        String sentence = "Of THING k (READ whole) what 0 TYPE, 1 a NUMBER's worth, how many bytes of WORDS, RAW,"
            + " how many THINGS in a GROUP, 2 how many THINGS it comes to, itself, too, all in it, 3 how deep"
            + " GROUPS stand in it (0: it is none).";
        Run run = held.run(THING, sentence);
        run.text("num -9;set();set(set());set(set(set());num 1);str ab;raw 1");
        run.due(4 + 18 + 2 + 1 + 4 + 11 + 3 + 2, "write", 1);
        long[][] want = {{NUMBER, -9, 1, 0}, {GROUP, 0, 1, 1}, {GROUP, 1, 2, 2}, {GROUP, 2, 4, 3}, {WORDS, 2, 1, 0},
            {RAW, 1, 1, 0}};
        for (int k = 0; k < want.length; k++) {
            for (int what = 0; what < 4; what++) {
                run.due(want[k][what], "thing", k, what);
            }
        }
        run = held.run(THING, sentence);
        // the deepest stands last; six in the GROUP, and in each of two of those
        int[] six = Made.times(6, Made.chunk(2, RAW));
        int[] deepLast = Made.join(Made.times(4, Made.chunk(2, RAW)), Made.chunk(2, GROUP, six),
            Made.nested(2, 1, Made.join(Made.times(5, Made.chunk(2, RAW)), Made.chunk(2, GROUP, Made.chunk(2, RAW)))));
        run.file(Made.file(2, GROUP, deepLast));
        run.due(GROUP, "thing", 0, 0);
        run.due(6, "thing", 0, 1);
        run.due(1 + 6 + 6 + 6 + 1, "thing", 0, 2);
        run.due(3, "thing", 0, 3);
        run = held.run(THING, sentence);
        run.file(Made.fileOf(1, Made.chunk(1, NUMBER, 127, 255, 255, 255), Made.chunk(1, NUMBER, 128, 0, 0, 0),
            Made.chunk(1, WORDS, Made.filled(20, 50)), Made.chunk(1, RAW, Made.filled(20, 50)), Made.chunk(1, WORDS)));
        run.due(Run.MOST, "thing", 0, 1);
        run.due(Run.LEAST, "thing", 1, 1);
        run.due(20, "thing", 2, 1);
        run.due(20, "thing", 3, 1);
        run.due(0, "thing", 4, 1);
        for (int k = 0; k < 5; k++) {
            run.due(1, "thing", k, 2);
            run.due(0, "thing", k, 3);
        }
    }

    private static void thingRefused(Held held) {
        Run run = held.run(THING, "NO: a FAULT, no such THING, what.");
        run.refused(Run.NO, "thing", 0, 0);
        run.file(67, 70, 1, 0);
        run.refused(Run.NO, "thing", 0, 0);
        run.fileNow(Made.fileOf(1, Made.chunk(1, RAW, 1), Made.chunk(1, GROUP, Made.chunk(1, RAW))));
        run.due(114, "thing", 0, 0);
        run.due(103, "thing", 1, 0);
        for (long k : new long[] {Run.LEAST, -1, 2, 3, Run.MOST}) {
            for (int what = -1; what < 5; what++) {
                run.refused(Run.NO, "thing", k, what);
            }
        }
        for (long what : new long[] {Run.LEAST, -1, 4, Run.MOST}) {
            run.refused(Run.NO, "thing", 0, what);
            run.refused(Run.NO, "thing", 1, what);
        }
        // one FAULT anywhere: there are no THINGS
        run.due(103, "set", 7, 9);
        for (int what = 0; what < 4; what++) {
            run.refused(Run.NO, "thing", 0, what);
        }
        run.due(9, "set", 7, 103);
        run.due(1, "thing", 0, 1);
    }

    private static void shown(Held held) {
        Run run = held.run("Promise 13", "Sign i of SHOWN of THING k (READ whole).");
        run.text("num -10;str ab;set(raw 7)");
        run.due(4 + 9 + 2 + 3 + 5, "write", 2);
        run.shown(0, "-10");
        run.shown(1, "\"ab\"");
        run.shown(2, "(<7>)");
        run = held.run("Promise 13", "NONE: a FAULT, no such THING, sign.");
        run.refused(Run.NONE, "shown", 0, 0);
        run.file(67, 70, 1, 0);
        run.refused(Run.NONE, "shown", 0, 0);
        run.fileNow(Made.fileOf(1, Made.chunk(1, RAW), Made.chunk(1, NUMBER, 7)));
        for (long k : new long[] {Run.LEAST, -1, 2, Run.MOST}) {
            run.refused(Run.NONE, "shown", k, 0);
            run.refused(Run.NONE, "shown", k, -1);
        }
        for (long i : new long[] {Run.LEAST, -1, 2, 3, Run.MOST}) {
            run.refused(Run.NONE, "shown", 0, i);
        }
        for (long i : new long[] {Run.LEAST, -1, 1, Run.MOST}) {
            run.refused(Run.NONE, "shown", 1, i);
        }
        run.due('<', "shown", 0, 0);
        run.due('>', "shown", 0, 1);
        run.due('7', "shown", 1, 0);
        run.due(7, "set", 12, 8);
        run.due(-104, "read");
        run.refused(Run.NONE, "shown", 0, 0);
        run.refused(Run.NONE, "shown", 1, 0);
    }

    private static void shownOfSorts(Held held) {
        Run run = held.run(SHOWN, "SHOWN of THING k of THE FILE (READ whole): NUMBERS as digits (- ahead),");
        int[][] payloads = {{0}, {9}, {10}, {99}, {100}, {255}, {246}, {156}, {3, 231}, {3, 232}, {127, 255, 255, 255},
            {128, 0, 0, 0}, {59, 154, 202, 0}, {196, 101, 54, 0}};
        String[] signs = {"0", "9", "10", "99", "100", "-1", "-10", "-100", "999", "1000", "2147483647", "-2147483648",
            "1000000000", "-1000000000"};
        for (int k = 0; k < signs.length; k++) {
            run = k % 5 == 0 ? held.run(SHOWN, "SHOWN of THING k of THE FILE (READ whole): NUMBERS as digits (-"
                + " ahead),")
                : run;
            run.fileNow(Made.file(1, NUMBER, payloads[k]));
            run.shown(0, signs[k]);
        }
        run = held.run(SHOWN, "WORDS between quotes (34),");
        run.file(Made.fileOf(1, Made.chunk(1, WORDS), Made.chunk(1, WORDS, 32), Made.chunk(1, WORDS, 34, 34),
            Made.chunk(1, WORDS, 126, 59, 40)));
        run.shown(0, "\"\"");
        run.shown(1, "\" \"");
        run.shown(2, "\"\"\"\"");
        run.shown(3, "\"~;(\"");
        run = held.run(SHOWN, "WORDS between quotes (34),");
        run.file(Made.file(1, WORDS, Made.filled(20, 126)));
        run.shown(0, "\"" + "~".repeat(20) + "\"");
        run = held.run(SHOWN, "RAW: < bytes with , between >,");
        run.file(Made.fileOf(1, Made.chunk(1, RAW), Made.chunk(1, RAW, 0), Made.chunk(1, RAW, 255, 0),
            Made.chunk(1, RAW, 9, 10, 99, 100)));
        run.shown(0, "<>");
        run.shown(1, "<0>");
        run.shown(2, "<255,0>");
        run.shown(3, "<9,10,99,100>");
        run = held.run(SHOWN, "RAW: < bytes with , between >,");
        run.file(Made.file(1, RAW, Made.filled(20, 255)));
        run.shown(0, "<" + "255,".repeat(19) + "255>");
        run = held.run(SHOWN, "GROUPS: ( THINGS with ; between ).");
        run.file(Made.fileOf(1, Made.chunk(1, GROUP), Made.nested(1, 3), Made.nested(1, 2, Made.join(
            Made.chunk(1, RAW, 1), Made.chunk(1, NUMBER, 255)))));
        run.shown(0, "()");
        run.shown(1, "((()))");
        run.shown(2, "((<1>;-1))");
        run = held.run(SHOWN, "GROUPS: ( THINGS with ; between ).");
        run.file(Made.file(1, GROUP, Made.join(Made.times(4, Made.chunk(1, NUMBER, 5)),
            Made.nested(1, 2), Made.chunk(1, WORDS))));
        run.shown(0, "(5;5;5;5;(());\"\")");
        longestShown(held);
    }

    /** As many signs as THE FILE's bytes can come to. */
    private static void longestShown(Held held) {
        int[] row = Made.chunk(1, RAW, Made.filled(20, 255));
        int[] file = Made.file(1, GROUP, Made.join(row, row, row, row, Made.chunk(1, RAW, Made.filled(17, 255))));
        String signs = "<" + "255,".repeat(19) + "255>;";
        String all = "(" + signs.repeat(4) + "<" + "255,".repeat(16) + "255>)";
        for (int from = 0; from < all.length(); from += 150) {
            Run run = held.run(SHOWN, "GROUPS: ( THINGS with ; between ).");
            run.file(file);
            run.due(120, "count", 0);
            for (int i = from; i < Math.min(from + 150, all.length()); i++) {
                run.due(all.charAt(i), "shown", 0, i);
            }
            run.refused(Run.NONE, "shown", 0, all.length());
        }
    }

    private static void taken(Held held) {
        String sentence = "THING k (READ whole) taken for a NUMBER (sort 0), WORDS (1), RAW (2), a GROUP (3): its"
            + " TYPE.";
        int[] file = Made.fileOf(2, Made.chunk(2, NUMBER, 1), Made.chunk(2, WORDS), Made.chunk(2, RAW),
            Made.chunk(2, GROUP));
        Run run = held.run("Promise 28", sentence);
        run.file(file);
        run.due(NUMBER, "taken", 0, 0);
        run.due(WORDS, "taken", 1, 1);
        run.due(RAW, "taken", 2, 2);
        run.due(GROUP, "taken", 3, 3);
        run = held.run("Promise 28", "BAD: sort;");
        run.refused(Run.BAD, "taken", 0, 4);
        run.refused(Run.BAD, "taken", 0, -1);
        run.file(file);
        for (long sort : new long[] {Run.LEAST, -1, 4, Run.MOST}) {
            for (long k : new long[] {-1, 0, 3, 4, Run.MOST}) {
                run.refused(Run.BAD, "taken", k, sort);
            }
        }
        run.due(GROUP, "taken", 3, 3);
        run = held.run("Promise 28", "NOTHING: a FAULT, no such THING;");
        for (int sort = 0; sort < 4; sort++) {
            run.refused(Run.NOTHING, "taken", 0, sort);
        }
        run.file(file);
        for (int sort = 0; sort < 4; sort++) {
            for (long k : new long[] {Run.LEAST, -1, 4, 5, Run.MOST}) {
                run.refused(Run.NOTHING, "taken", k, sort);
            }
        }
        run.due(GROUP, "taken", 3, 3);
        run.due(GROUP, "set", 13, 0);
        for (int sort = 0; sort < 4; sort++) {
            run.refused(Run.NOTHING, "taken", sort, sort);
        }
        run = held.run("Promise 28", "CAST.");
        run.file(file);
        for (int k = 0; k < 4; k++) {
            for (int sort = 0; sort < 4; sort++) {
                if (k != sort) {
                    run.refused(Run.CAST, "taken", k, sort);
                }
            }
        }
    }

    private static void asksChangeNothing(Held held) {
        Run run = held.run("Terms 3", "What is answered so changes nothing; what is asked changes nothing.");
        run.file(FULL_FILE);
        run.text("num 5");
        run.due(1, "see", 2, 1);
        run.due(1, "plan", 2, 100);
        run.due(1, "book", 0, 67);
        run.row(0, 67, 70);
        run.due(120, "image");
        run.due(67, "at", 0);
        run.due(67, "check", 1, 0, 1);
        run.due(6, "read");
        run.due(-5, "fault", 0, 0);
        run.due(63, "recovered");
        run.due(114, "thing", 0, 0);
        run.due('<', "shown", 0, 0);
        run.due(1, "mends", 0, 0);
        run.due(67, "mends", 0, 1);
        run.due(120, "as", 1, 0);
        run.due(1, "fits", 1);
        run.due(0, "fits", 2);
        run.refused(Run.NO, "mean", 0);
        run.due(5, "ends", 0);
        run.due(3, "ends", 1);
        run.due(-5, "looked");
        run.due(1002, "judge", 0, 0);
        run.refused(Run.NOTHING, "taken", 6, 0);
        run.due(5, "count", 4);
        run.due(70, "peek", 0, 1);
        run.refused(Run.FULL, "put", 0);
        run.refused(Run.NONE, "write", 4);
        run.due(120, "undo");
        run = held.run("Terms 2", "All that follows is asked, and changes nothing.");
        run.file(Made.fileOf(1, Made.chunk(1, NUMBER, 5)));
        run.due(9, "count", 0);
        run.due(1, "mends", 8, 0);
        run.due(70, "flips");
        run.due(70, "flips");
        run.due(1, "plan", 0, 8);
        run.due(4, "ends", 0);
        run.due(4, "ends", 0);
        run.due(9, "as", 3, 0);
        run.due(1, "fits", 1);
        run.fileIs(67, 70, 1, 1, 110, 7, 1, 5, 5);
    }
}
