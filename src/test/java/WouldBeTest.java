/** Promises 14 to 20: mends, flips, as, see, fits, odds, mean. */
public final class WouldBeTest {
    private static final Due due = new Due("WouldBeTest");

    public static void main(String[] args) {
        mends();
        flips();
        odds();
        as();
        see();
        fits();
        mean();
        due.end();
    }

    private static void mends() {
        ChunkLayers x = Due.fileOfText(1, "num 5");
        due.is("mends(0, 0)", x.mends(0, 0), 1);
        due.is("mends(0, 1)", x.mends(0, 1), 67);
        due.is("mends(2, 0): 5 by each version is 5", x.mends(2, 0), 3);
        due.is("mends(2, 1)", x.mends(2, 1), 1);
        due.is("mends(3, 0): none, or one", x.mends(3, 0), 2);
        due.is("mends(3, 1)", x.mends(3, 1), 0);
        due.is("mends(4, 0): number, words not, raw", x.mends(4, 0), 2);
        due.is("mends(4, 1)", x.mends(4, 1), 110);
        due.is("mends(8, 1)", x.mends(8, 1), 5);
        x.set(8, 200);
        due.is("mends(8, 0) of a wrong check", x.mends(8, 0), 1);
        due.is("mends(8, 1) of a wrong check", x.mends(8, 1), 5);
        due.is("mends(7, 1) of a wrong check", x.mends(7, 1), 200);
        due.is("mends(0, 0): none", x.mends(0, 0), 0);
        due.is("mends(0, 1): none", x.mends(0, 1), -5);
        due.is("mends(9, 0)", x.mends(9, 0), ChunkLayers.NONE);
        due.is("mends(-1, 0)", x.mends(-1, 0), ChunkLayers.NONE);
        due.is("mends(0, 2)", x.mends(0, 2), ChunkLayers.NONE);
        due.is("mends(0, -1)", x.mends(0, -1), ChunkLayers.NONE);
        due.fileIs("after mends", x, 67, 70, 1, 1, 110, 7, 1, 5, 200);
        ChunkLayers free = Due.fileOf(67, 70, 1, 0, 9);
        due.is("mends(4, 0) of a byte that no one looks at", free.mends(4, 0), 256);
        due.is("mends(4, 1) of a byte that no one looks at", free.mends(4, 1), 0);
        due.is("mends(0, 0) of nothing", new ChunkLayers().mends(0, 0), ChunkLayers.NONE);
    }

    private static void flips() {
        due.is("flips() of nothing", new ChunkLayers().flips(), 0);
        due.is("flips() of one wrong byte", Due.fileOf(0).flips(), 8);
        // of 67, 70 all; of the version 1: to 3 is none; of 0 entries: all; of the free byte none
        due.is("flips() of no entries", Due.fileOf(67, 70, 1, 0, 9).flips(), 8 + 8 + 7 + 8);
        ChunkLayers off = Due.fileOf(66, 70, 1, 0);
        due.is("flips() that mend", off.flips(), 31);
        due.fileIs("after flips", off, 66, 70, 1, 0);
        due.is("flips() that mend by the highest bit", Due.fileOf(67 ^ 128, 70, 1, 0).flips(), 31);
    }

    private static void odds() {
        ChunkLayers x = Due.fileOf(67, 70, 1, 0, 9);
        due.fractionIs("odds of no entries", x.odds(0), x.odds(1), 31, 40);
        x.put(1);
        x.put(1);
        x.put(1);
        due.fractionIs("odds with bytes behind", x.odds(0), x.odds(1), 31, 64);
        x = Due.fileOf(1, 2, 3);
        due.fractionIs("odds of all", x.odds(0), x.odds(1), 1, 1);
        x = Due.fileOf(67, 70, 3, 0);
        due.fractionIs("odds in lowest terms", x.odds(0), x.odds(1), 15, 16);
        due.is("odds(2)", x.odds(2), ChunkLayers.NO);
        due.is("odds(-1)", x.odds(-1), ChunkLayers.NO);
        x = new ChunkLayers();
        due.is("odds(0) of nothing", x.odds(0), ChunkLayers.NO);
        due.is("odds(1) of nothing", x.odds(1), ChunkLayers.NO);
    }

    private static void as() {
        ChunkLayers x = Due.fileOf(67, 70, 1, 2, 110, 16, 4, 114, 11, 2, 99, 7, 8, 15, 99, 99, 255, 255, 255, 128, 125);
        due.is("read()", x.read(), 2);
        for (int version = 1; version <= 3; version++) {
            due.is("as(" + version + ", 0)", x.as(version, 0), 10 + 2 + 3);
            due.is("as(" + version + ", 1)", x.as(version, 1), 1);
        }
        due.is("as(0, 0)", x.as(0, 0), ChunkLayers.NONE);
        due.is("as(4, 1)", x.as(4, 1), ChunkLayers.NONE);
        due.is("as(1, 2)", x.as(1, 2), ChunkLayers.NONE);
        due.is("as(1, -1)", x.as(1, -1), ChunkLayers.NONE);
        x.set(20, 0);
        due.is("as(1, 0) of a faulty one", x.as(1, 0), -5);
        due.is("as(1, 1) of a faulty one", x.as(1, 1), -5);
        due.is("as(0, 0) of a faulty one", x.as(0, 0), ChunkLayers.NONE);
        due.is("as(1, 2) of a faulty one", x.as(1, 2), ChunkLayers.NONE);
        due.is("as(1, 0) of no entries", Due.fileOf(67, 70, 1, 0, 9, 9).as(1, 0), 4);
        int[] group = Made.join(Made.chunk(1, 110, 0, 0, 0, 200),
            Made.chunk(1, 103, Made.chunk(1, 110, 255, 255, 254)));
        due.is("as(2, 0) of numbers in groups", Due.fileOfChunk(103, group).as(2, 0), 8 + 5 + 3 + 4);
    }

    private static void see() {
        ChunkLayers x = new ChunkLayers();
        due.is("see(120, 0)", x.see(120, 0), ChunkLayers.BAD);
        due.is("see(-2, 0)", x.see(-2, 0), ChunkLayers.BAD);
        due.is("see(0, 256)", x.see(0, 256), ChunkLayers.BAD);
        due.is("see(0, -1)", x.see(0, -1), ChunkLayers.BAD);
        due.is("see(119, 255)", x.see(119, 255), 1);
        due.is("see(0, 0)", x.see(0, 0), 2);
        due.is("see(0, 0) again", x.see(0, 0), 3);
        due.is("see(1, 0)", x.see(1, 0), 4);
        due.is("see(2, 0)", x.see(2, 0), 5);
        due.is("see(3, 0) as sixth", x.see(3, 0), ChunkLayers.FULL);
        due.is("see(120, 0) as sixth: BAD is named first", x.see(120, 0), ChunkLayers.BAD);
        due.is("count(1)", x.count(1), 5);
        due.is("see(-1, 999)", x.see(-1, 999), 0);
        due.is("count(1)", x.count(1), 0);
        due.is("see(3, 0)", x.see(3, 0), 1);
    }

    private static void fits() {
        ChunkLayers x = Due.fileOf(67, 70, 1, 1, 110, 8, 2, 77, 0, 5, 5);
        due.is("fits(1), nothing seen", x.fits(1), 1);
        x.see(2, 3);
        due.is("fits(3)", x.fits(3), 1);
        due.is("fits(1)", x.fits(1), 0);
        due.is("fits(2)", x.fits(2), 0);
        x.see(-1, 0);
        x.see(5, 7);
        x.see(7, 5);
        x.see(8, 5);
        due.is("fits(2) as written", x.fits(2), 1);
        x.see(9, 5);
        due.is("fits(2), a place behind its end", x.fits(2), 0);
        x.see(-1, 0);
        x.see(9, 0);
        due.is("fits(2), 0 behind its end", x.fits(2), 0);
        x.see(-1, 0);
        x.see(7, 5);
        x.see(7, 6);
        due.is("fits(2), one place twice", x.fits(2), 0);
        due.is("fits(0)", x.fits(0), ChunkLayers.NONE);
        due.is("fits(4)", x.fits(4), ChunkLayers.NONE);
        x.cut(1);
        due.is("fits(1) of a faulty one", x.fits(1), -5);
        due.is("fits(4) of a faulty one", x.fits(4), ChunkLayers.NONE);
        ChunkLayers two = Due.fileOfText(1, "num 1;num 2");
        two.see(3, 2);
        two.see(11, 1);
        two.see(12, 2);
        two.see(13, 2);
        two.see(7, 110);
        due.is("fits(3) of five rows", two.fits(3), 1);
        two.set(12, 3);
        two.set(13, 3);
        due.is("fits(3) of another number", two.fits(3), 0);
    }

    private static void mean() {
        ChunkLayers x = Due.fileOfText(1, "num 5;set(num -8;set(num 1));str ab");
        due.fractionIs("mean below 0", x.mean(0), x.mean(1), -2, 3);
        x = Due.fileOfText(1, "num -7");
        due.fractionIs("mean of one", x.mean(0), x.mean(1), -7, 1);
        x = Due.fileOfText(1, "num 5;num -5");
        due.fractionIs("mean of 0", x.mean(0), x.mean(1), 0, 1);
        x = Due.fileOfText(1, "num 4;num 8;set(num 3;num 9)");
        due.fractionIs("mean of 6", x.mean(0), x.mean(1), 6, 1);
        x = Due.fileOfText(1, "num 1;num 2;num 3;num 9;num 4;num -999999999");
        due.fractionIs("mean of six", x.mean(0), x.mean(1), -499999990, 3);
        due.is("mean(2)", x.mean(2), ChunkLayers.NO);
        due.is("mean(-1)", x.mean(-1), ChunkLayers.NO);
        x.set(0, 0);
        due.is("mean(0) of a faulty one", x.mean(0), ChunkLayers.NO);
        due.is("mean(1) of a faulty one", x.mean(1), ChunkLayers.NO);
        x = Due.fileOfText(1, "str a;raw 7;set()");
        due.is("mean(0) of none", x.mean(0), ChunkLayers.NO);
        due.is("mean(1) of none", x.mean(1), ChunkLayers.NO);
        int[] least = Made.chunk(1, 110, 128, 0, 0, 0);
        x = Due.fileOfChunk(103, Made.join(least, least, least));
        due.fractionIs("mean of the least", x.mean(0), x.mean(1), Integer.MIN_VALUE, 1);
    }
}
