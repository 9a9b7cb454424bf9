/** Promises 1 to 6: a new object, put, set, cut, at, check. */
public final class FileTest {
    private static final Due due = new Due("FileTest");

    public static void main(String[] args) {
        newObject();
        put();
        set();
        cut();
        at();
        check();
        due.end();
    }

    private static void newObject() {
        ChunkLayers x = new ChunkLayers();
        for (int what = 0; what < 5; what++) {
            due.is("count(" + what + ") of a new object", x.count(what), 0);
        }
        due.is("undo() of a new object", x.undo(), ChunkLayers.STATE);
        due.is("peek(0, 0) of a new object", x.peek(0, 0), ChunkLayers.NO);
        due.is("item(0, 0, 1) of a new object", x.item(0, 0, 1), -11);
        due.is("NO", ChunkLayers.NO, Long.MIN_VALUE);
    }

    private static void put() {
        ChunkLayers x = new ChunkLayers();
        due.is("put(-1)", x.put(-1), ChunkLayers.BAD);
        due.is("put(256)", x.put(256), ChunkLayers.BAD);
        due.is("count(0)", x.count(0), 0);
        for (int k = 1; k <= 120; k++) {
            due.is("put as " + k, x.put(k * 2), k);
        }
        due.is("put(0) as 121", x.put(0), ChunkLayers.FULL);
        due.is("put(256) as 121: BAD is named first", x.put(256), ChunkLayers.BAD);
        due.is("count(0)", x.count(0), 120);
        due.is("at(119)", x.at(119), 240);
        x.cut(1);
        due.is("put(0)", x.put(0), 2);
        due.is("put(255)", x.put(255), 3);
        due.fileIs("put", x, 2, 0, 255);
    }

    private static void set() {
        ChunkLayers x = Due.fileOf(5, 6, 7);
        due.is("set(1, 255)", x.set(1, 255), 6);
        due.is("set(1, 0)", x.set(1, 0), 255);
        due.is("set(2, 9)", x.set(2, 9), 7);
        due.is("set(3, 9)", x.set(3, 9), ChunkLayers.NONE);
        due.is("set(-1, 9)", x.set(-1, 9), ChunkLayers.NONE);
        due.is("set(3, 256): NONE is named first", x.set(3, 256), ChunkLayers.NONE);
        due.is("set(0, 256)", x.set(0, 256), ChunkLayers.BAD);
        due.is("set(0, -1)", x.set(0, -1), ChunkLayers.BAD);
        due.fileIs("set", x, 5, 0, 9);
    }

    private static void cut() {
        ChunkLayers x = Due.fileOf(5, 6, 7);
        due.is("cut(4)", x.cut(4), ChunkLayers.BAD);
        due.is("cut(-1)", x.cut(-1), ChunkLayers.BAD);
        due.is("cut(3)", x.cut(3), 3);
        due.fileIs("cut(3)", x, 5, 6, 7);
        due.is("cut(1)", x.cut(1), 3);
        due.fileIs("cut(1)", x, 5);
        due.is("cut(0)", x.cut(0), 1);
        due.fileIs("cut(0)", x);
        due.is("cut(0)", x.cut(0), 0);
        due.is("cut(1)", x.cut(1), ChunkLayers.BAD);
    }

    private static void at() {
        ChunkLayers x = Due.fileOf(5, 255);
        due.is("at(0)", x.at(0), 5);
        due.is("at(1)", x.at(1), 255);
        due.is("at(2)", x.at(2), ChunkLayers.NONE);
        due.is("at(-1)", x.at(-1), ChunkLayers.NONE);
        due.is("at(least)", x.at(Integer.MIN_VALUE), ChunkLayers.NONE);
    }

    private static void check() {
        ChunkLayers x = Due.fileOf(200, 100, 7);
        due.is("check(1, 0, 3)", x.check(1, 0, 3), 51);
        due.is("check(2, 0, 3)", x.check(2, 0, 3), 200 ^ 100 ^ 7);
        due.is("check(3, 0, 3)", x.check(3, 0, 3), ((200 * 31 + 100) * 31 + 7) & 255);
        due.is("check(1, 1, 2)", x.check(1, 1, 2), 107);
        due.is("check(2, 1, 1)", x.check(2, 1, 1), 100);
        due.is("check(3, 2, 1)", x.check(3, 2, 1), 7);
        for (int version = 1; version <= 3; version++) {
            due.is("check of nothing", x.check(version, 3, 0), 0);
        }
        due.is("check(0, 0, 3)", x.check(0, 0, 3), ChunkLayers.NONE);
        due.is("check(4, 0, 9): NONE is named first", x.check(4, 0, 9), ChunkLayers.NONE);
        due.is("check(1, 0, 4)", x.check(1, 0, 4), ChunkLayers.BAD);
        due.is("check(1, -1, 2)", x.check(1, -1, 2), ChunkLayers.BAD);
        due.is("check(1, 0, -1)", x.check(1, 0, -1), ChunkLayers.BAD);
        due.is("check beyond all", x.check(1, 1, Integer.MAX_VALUE), ChunkLayers.BAD);
        due.is("check from beyond all", x.check(1, Integer.MAX_VALUE, 1), ChunkLayers.BAD);
    }
}
