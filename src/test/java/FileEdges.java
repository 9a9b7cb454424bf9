/** Promises 1 to 6, and what the Terms say of THE FILE's bytes and of the CHECK, at their boundaries. */
final class FileEdges {
    private static final String PUT = "Promise 2", SET = "Promise 3", CUT = "Promise 4", CHECK = "Promise 6";

    private FileEdges() {
    }

    static void all(Held held) {
        constants(held);
        newObject(held);
        bytes(held);
        put(held);
        set(held);
        cut(held);
        at(held);
        check(held);
        checkRefused(held);
        checkByVersion(held);
    }

    private static void constants(Held held) {
        Run run = held.run("Terms 3", "The constants: `NO = Long.MIN_VALUE`: There is no such number.");
        held.same("NO", Long.toString(ChunkLayers.NO), Long.toString(Long.MIN_VALUE));
        run.refused(ChunkLayers.NO, "odds", 0);
        run.refused(ChunkLayers.NO, "peek", 0, 0);
        run = held.run("Terms 3", "Answers: NONE (-1) no such number; BAD (-2) a number is not as told; STATE (-3)"
            + " as told; FULL (-4); the first that a call's words name.");
        held.same("NONE", Integer.toString(ChunkLayers.NONE), "-1");
        held.same("BAD", Integer.toString(ChunkLayers.BAD), "-2");
        held.same("STATE", Integer.toString(ChunkLayers.STATE), "-3");
        held.same("FULL", Integer.toString(ChunkLayers.FULL), "-4");
        run.refused(ChunkLayers.NONE, "at", 0);
        run.refused(ChunkLayers.NONE, "set", 0, 256);
        run.refused(ChunkLayers.BAD, "put", 256);
        run.refused(ChunkLayers.STATE, "undo");
        for (int k = 1; k <= 5; k++) {
            run.due(k, "see", 0, 0);
        }
        run.refused(ChunkLayers.FULL, "see", 0, 0);
        run.refused(ChunkLayers.BAD, "see", 0, 256);
    }

    private static void newObject(Held held) {
        Run run = held.run("Promise 1", "THE FILE is empty.");
        run.due(0, "count", 0);
        run.refused(Run.NONE, "at", 0);
        run.refused(Run.NONE, "set", 0, 0);
        run.refused(Run.BAD, "cut", 1);
        run.faults(3, 0, 0);
        run.due(0, "recovered");
        run.due(0, "cut", 0);
        run.due(1, "put", 67);
        run.due(67, "at", 0);
        run = held.run("Promise 1", "THE FILE is empty.");
        run.due(0, "image");
        run.due(0, "count", 1);
        run.due(0, "count", 2);
        run.due(0, "count", 3);
        run.due(0, "count", 4);
        run.due(1, "put", 67);
        run.due(0, "undo");
        run.fileIs();
    }

    private static void bytes(Held held) {
        Run run = held.run("Terms 1", "THE FILE: bytes 0 .. 255, at places from 0 on, 120 at most (none at"
            + " first).");
        run.fileIs();
        run.refused(Run.BAD, "put", -1);
        run.due(1, "put", 0);
        run.due(2, "put", 255);
        run.refused(Run.BAD, "put", 256);
        run.refused(Run.NONE, "at", -1);
        run.fileIs(0, 255);
        run = held.run("Terms 1", "THE FILE: bytes 0 .. 255, at places from 0 on, 120 at most (none at first).");
        run.file(Made.filled(120, 9));
        run.refused(Run.FULL, "put", 9);
        run.fileIs(Made.filled(120, 9));
    }

    private static void put(Held held) {
        Run run = held.run(PUT, "A byte comes behind THE FILE's: how many it has.");
        run.due(1, "put", 7);
        run.due(2, "put", 0);
        run.due(3, "put", 255);
        run.due(4, "put", 7);
        run.fileIs(7, 0, 255, 7);
        run = held.run(PUT, "BAD: v");
        refuseBytes(run, "put");
        run.due(1, "put", 0);
        refuseBytes(run, "put");
        run.due(2, "put", 255);
        refuseBytes(run, "put");
        run.fileIs(0, 255);
        run = held.run(PUT, "FULL: 120.");
        run.file(Made.filled(118, 3));
        run.due(119, "put", 1);
        run.due(120, "put", 2);
        run.refused(Run.FULL, "put", 0);
        run.refused(Run.FULL, "put", 255);
        refuseBytes(run, "put");
        run.due(1, "at", 118);
        run.due(2, "at", 119);
        run.refused(Run.NONE, "at", 120);
        run.due(120, "cut", 119);
        run.due(120, "put", 4);
        run.refused(Run.FULL, "put", 5);
        run.due(4, "at", 119);
    }

    private static void refuseBytes(Run run, String call, long... ahead) {
        for (long v : Run.NO_BYTES) {
            long[] arguments = java.util.Arrays.copyOf(ahead, ahead.length + 1);
            arguments[ahead.length] = v;
            run.refused(Run.BAD, call, arguments);
        }
    }

    private static void set(Held held) {
        Run run = held.run(SET, "The byte at a place becomes v: what it was.");
        run.file(5, 6, 7);
        run.due(6, "set", 1, 255);
        run.due(255, "set", 1, 0);
        run.due(0, "set", 1, 1);
        run.due(5, "set", 0, 5);
        run.due(7, "set", 2, 8);
        run.fileIs(5, 1, 8);
        run = held.run(SET, "The byte at a place becomes v: what it was.");
        run.file(Made.filled(120, 3));
        run.due(3, "set", 119, 4);
        run.due(4, "set", 119, 5);
        run.refused(Run.NONE, "set", 120, 5);
        run.due(3, "set", 0, 6);
        run.due(5, "at", 119);
        run.due(6, "at", 0);
        run = held.run(SET, "NONE: place");
        for (int size = 0; size < 3; size++) {
            for (long place : new long[] {Run.LEAST, -1, size, size + 1, 119, 120, Run.MOST}) {
                run.refused(Run.NONE, "set", place, 1);
                run.refused(Run.NONE, "set", place, 256);
                run.refused(Run.NONE, "set", place, -1);
            }
            run.due(size + 1, "put", size);
        }
        run.due(2, "set", 2, 9);
        run.fileIs(0, 1, 9);
        run = held.run(SET, "BAD.");
        run.file(5, 6);
        refuseBytes(run, "set", 0);
        refuseBytes(run, "set", 1);
        run.due(5, "set", 0, 0);
        run.due(6, "set", 1, 255);
        run.fileIs(0, 255);
        run.due(2, "cut", 1);
        run.refused(Run.NONE, "set", 1, 256);
        run.refused(Run.NONE, "set", 1, 0);
    }

    private static void cut(Held held) {
        Run run = held.run(CUT, "THE FILE ends behind n bytes (0 .. as many as it has): how many it had.");
        run.due(0, "cut", 0);
        run.file(5, 6, 7);
        run.due(3, "cut", 3);
        run.fileIs(5, 6, 7);
        run.due(3, "cut", 2);
        run.fileIs(5, 6);
        run.due(3, "put", 9);
        run.fileIs(5, 6, 9);
        run.due(3, "cut", 0);
        run.fileIs();
        run.due(0, "cut", 0);
        run.due(1, "put", 1);
        run.due(1, "cut", 1);
        run = held.run(CUT, "THE FILE ends behind n bytes (0 .. as many as it has): how many it had.");
        run.file(Made.filled(120, 3));
        run.due(120, "cut", 120);
        run.due(120, "cut", 119);
        run.due(119, "count", 0);
        run.due(119, "cut", 1);
        run.fileIs(3);
        run = held.run(CUT, "BAD.");
        run.refused(Run.BAD, "cut", 1);
        run.refused(Run.BAD, "cut", -1);
        run.file(5, 6, 7);
        run.refused(Run.BAD, "cut", 4);
        run.refused(Run.BAD, "cut", -1);
        run.refused(Run.BAD, "cut", Run.MOST);
        run.refused(Run.BAD, "cut", Run.LEAST);
        run.fileIs(5, 6, 7);
        run.due(3, "cut", 1);
        run.refused(Run.BAD, "cut", 2);
        run.fileIs(5);
        run = held.run(CUT, "BAD.");
        run.file(Made.filled(120, 3));
        run.refused(Run.BAD, "cut", 121);
        run.refused(Run.BAD, "cut", -1);
        run.due(120, "count", 0);
    }

    private static void at(Held held) {
        Run run = held.run("Promise 5", "The byte at a place (NONE).");
        for (int size = 0; size < 3; size++) {
            for (long place : new long[] {Run.LEAST, -1, size, 119, 120, Run.MOST}) {
                run.refused(Run.NONE, "at", place);
            }
            run.due(size + 1, "put", 255 - size);
            run.due(255 - size, "at", size);
        }
        run.due(255, "at", 0);
        run.due(3, "cut", 2);
        run.refused(Run.NONE, "at", 2);
        run = held.run("Promise 5", "The byte at a place (NONE).");
        run.file(Made.join(Made.filled(119, 0), Made.row(8)));
        run.due(0, "at", 118);
        run.due(8, "at", 119);
        run.refused(Run.NONE, "at", 120);
    }

    private static void check(Held held) {
        Run run = held.run(CHECK, "CHECK by a VERSION of n bytes of THE FILE from a place on.");
        int[] bytes = {200, 100, 7, 255};
        run.file(bytes);
        for (int version = 1; version <= 3; version++) {
            for (int place = 0; place <= 4; place++) {
                for (int n = 0; n <= 4 - place; n++) {
                    int[] part = java.util.Arrays.copyOfRange(bytes, place, place + n);
                    run.due(Made.check(version, part), "check", version, place, n);
                }
            }
        }
        run = held.run(CHECK, "CHECK by a VERSION of n bytes of THE FILE from a place on.");
        for (int version = 1; version <= 3; version++) {
            run.due(0, "check", version, 0, 0);
        }
        run.file(Made.filled(120, 255));
        for (int version = 1; version <= 3; version++) {
            run.due(Made.check(version, Made.filled(120, 255)), "check", version, 0, 120);
            run.due(Made.check(version, Made.filled(119, 255)), "check", version, 1, 119);
            run.due(255, "check", version, 119, 1);
            run.due(0, "check", version, 120, 0);
            run.refused(Run.BAD, "check", version, 0, 121);
            run.refused(Run.BAD, "check", version, 119, 2);
            run.refused(Run.BAD, "check", version, 120, 1);
        }
    }

    private static void checkRefused(Held held) {
        Run run = held.run(CHECK, "NONE: version");
        run.file(5, 6);
        for (long version : Run.NO_VERSIONS) {
            run.refused(Run.NONE, "check", version, 0, 2);
            run.refused(Run.NONE, "check", version, 0, 0);
            run.refused(Run.NONE, "check", version, 0, 3);
            run.refused(Run.NONE, "check", version, -1, -1);
        }
        run.due(11, "check", 1, 0, 2);
        run.due(5 * 31 + 6, "check", 3, 0, 2);
        run = held.run(CHECK, "BAD: they aren't all there.");
        run.refused(Run.BAD, "check", 1, 0, 1);
        run.file(5, 6, 7);
        for (int version = 1; version <= 3; version++) {
            run.refused(Run.BAD, "check", version, 0, 4);
            run.refused(Run.BAD, "check", version, 1, 3);
            run.refused(Run.BAD, "check", version, 3, 1);
            run.refused(Run.BAD, "check", version, -1, 1);
            run.refused(Run.BAD, "check", version, -1, 4);
            run.refused(Run.BAD, "check", version, 0, -1);
            run.refused(Run.BAD, "check", version, 2, Run.MOST);
            run.refused(Run.BAD, "check", version, Run.MOST, 1);
            run.refused(Run.BAD, "check", version, Run.MOST, Run.MOST);
            run.refused(Run.BAD, "check", version, Run.LEAST, Run.LEAST);
            run.refused(Run.BAD, "check", version, Run.LEAST, 3);
            run.refused(Run.BAD, "check", version, 0, Run.LEAST);
            run.refused(Run.BAD, "check", version, -1, Run.MOST);
        }
        run.due(18, "check", 1, 0, 3);
        run.fileIs(5, 6, 7);
    }

    private static void checkByVersion(Held held) {
        Run run = held.run("Terms 1", "CHECK by VERSION: 1: all bytes of the PAYLOAD together;");
        run.file(254, 1, 1, 255, 255);
        run.due(254, "check", 1, 0, 1);
        run.due(255, "check", 1, 0, 2);
        run.due(0, "check", 1, 0, 3);
        run.due(255, "check", 1, 0, 4);
        run.due(254, "check", 1, 0, 5);
        run = held.run("Terms 1", "2: all of them XORed, one behind another;");
        run.file(255, 255, 170, 85, 1);
        run.due(255, "check", 2, 0, 1);
        run.due(0, "check", 2, 0, 2);
        run.due(170, "check", 2, 0, 3);
        run.due(255, "check", 2, 0, 4);
        run.due(254, "check", 2, 0, 5);
        run = held.run("Terms 1",
            "3: 0 at first, then byte by byte what it was times 31, and that byte; modulo 256.");
        run.file(8, 7, 1, 0, 255);
        run.due(8, "check", 3, 0, 1);
        run.due(255, "check", 3, 0, 2);
        run.due((255 * 31 + 1) % 256, "check", 3, 0, 3);
        run.due((255 * 31 + 1) * 31 % 256, "check", 3, 0, 4);
        run.due(((255 * 31 + 1) * 31 * 31 + 255) % 256, "check", 3, 0, 5);
        run.due(7 * 31 + 1, "check", 3, 1, 2);
        run.due(0, "set", 3, 8);
        run.due(255, "set", 4, 8);
        run.due(0, "check", 3, 3, 2);
    }
}
