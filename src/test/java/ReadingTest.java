/** Promises 9 to 13 and 28: read, fault, recovered, thing, shown, taken. */
public final class ReadingTest {
    private static final Due due = new Due("ReadingTest");
    private static final int NUMBER = 110, WORDS = 115, RAW = 114, GROUP = 103;

    public static void main(String[] args) {
        head();
        offsets();
        checks();
        chunksOfEntries();
        numbers();
        rows();
        groups();
        deep();
        faultRefusals();
        recovered();
        things();
        shown();
        taken();
        due.end();
    }

    private static void head() {
        due.faultsAre("nothing", Due.fileOf(), 3, 0, 0);
        due.faultsAre("wrong first", Due.fileOf(66, 71), 1, 0, 0);
        due.faultsAre("wrong second", Due.fileOf(67, 71, 9, 9), 1, 0, 1);
        due.faultsAre("one byte", Due.fileOf(67), 3, 0, 1);
        due.faultsAre("no version", Due.fileOf(67, 70), 3, 0, 2);
        due.faultsAre("version 0", Due.fileOf(67, 70, 0), 2, 0, 2);
        due.faultsAre("version 4", Due.fileOf(67, 70, 4, 9), 2, 0, 2);
        due.faultsAre("no entries' number", Due.fileOf(67, 70, 3), 3, 0, 3);
        due.faultsAre("seven entries", Due.fileOf(67, 70, 3, 7), 5, 0, 3);
        due.faultsAre("entries missing", Due.fileOf(67, 70, 3, 6), 3, 0, 4);
        due.faultsAre("entry short", Due.fileOf(67, 70, 1, 1, NUMBER, 7), 3, 0, 6);
        due.faultsAre("second entry short", Due.fileOf(67, 70, 1, 2, NUMBER, 0, 1, NUMBER, 0), 3, 0, 9);
        for (int version = 1; version <= 3; version++) {
            ChunkLayers x = Due.fileOf(67, 70, version, 0);
            due.is("read() of no entries", x.read(), 0);
            due.faultsAre("no entries", x);
            due.is("recovered()", x.recovered(), 0);
        }
        due.is("read() with bytes behind", Due.fileOf(67, 70, 1, 0, 1, 2, 3).read(), 0);
    }

    private static void offsets() {
        due.faultsAre("in the entries", Due.fileOf(67, 70, 1, 1, NUMBER, 6, 1, 1, 1), 9, 0, 0, 5, 1, 5);
        due.faultsAre("in the head", Due.fileOf(67, 70, 1, 1, NUMBER, 0, 1, 1, 1), 9, 0, 0, 5, 1, 5);
        due.faultsAre("no place for the check", Due.fileOf(67, 70, 1, 1, NUMBER, 7, 1, 1), 9, 0, 0, 5, 1, 5);
        due.faultsAre("far behind", Due.fileOf(67, 70, 1, 1, NUMBER, 255, 255, 1), 9, 0, 0, 5, 1, 5);
        due.faultsAre("just there", Due.fileOf(67, 70, 1, 1, NUMBER, 7, 1, 1, 1));
        due.faultsAre("same bytes", Due.fileOf(67, 70, 1, 2, NUMBER, 10, 1, NUMBER, 10, 1, 1, 1), 9, 0, 0, 5, 1, 8);
        due.faultsAre("on the check of the first",
            Due.fileOf(67, 70, 1, 2, NUMBER, 10, 1, NUMBER, 11, 1, 1, 1, 1), 9, 0, 0, 5, 1, 8);
        due.faultsAre("its check on the first",
            Due.fileOf(67, 70, 1, 2, NUMBER, 11, 1, NUMBER, 10, 1, 1, 1, 1), 9, 0, 0, 5, 1, 8);
        due.faultsAre("around the first",
            Due.fileOf(67, 70, 1, 2, NUMBER, 11, 1, RAW, 10, 3, 1, 1, 1, 3), 9, 0, 0, 5, 1, 8);
        due.faultsAre("ahead of the first", Due.fileOf(67, 70, 1, 2, NUMBER, 12, 1, NUMBER, 10, 1, 1, 1, 2, 2));
        due.faultsAre("the second's offset is ahead of the first's chunk",
            Due.fileOf(67, 70, 1, 2, 1, 10, 1, NUMBER, 0, 1, 1, 9), 9, 0, 0, 5, 1, 8);
    }

    private static void checks() {
        due.faultsAre("check", Due.fileOf(67, 70, 1, 1, NUMBER, 7, 2, 200, 100, 43), 9, 0, 0, 9, 1, 4, 4, 2, 9);
        due.faultsAre("by 1", Due.fileOf(67, 70, 1, 1, NUMBER, 7, 2, 200, 100, 44));
        due.faultsAre("by 2", Due.fileOf(67, 70, 2, 1, NUMBER, 7, 2, 200, 100, 200 ^ 100));
        due.faultsAre("by 3", Due.fileOf(67, 70, 3, 1, NUMBER, 7, 2, 200, 100, (200 * 31 + 100) & 255));
        due.faultsAre("1 for 3", Due.fileOf(67, 70, 3, 1, NUMBER, 7, 2, 200, 100, 44), 9, 0, 0, 9, 1, 4, 4, 2, 9);
        due.faultsAre("check ahead of type", Due.fileOf(67, 70, 1, 1, 0, 7, 1, 5, 6), 9, 0, 0, 9, 1, 4, 4, 2, 8);
        due.faultsAre("check ahead of length", Due.fileOf(67, 70, 1, 1, NUMBER, 7, 0, 6), 9, 0, 0, 9, 1, 4, 4, 2, 7);
    }

    private static void chunksOfEntries() {
        due.faultsAre("type", Due.fileOf(67, 70, 1, 1, 0, 7, 1, 5, 5), 9, 0, 0, 9, 1, 4, 6, 2, 4);
        due.faultsAre("second's type", Due.fileOf(67, 70, 1, 2, NUMBER, 10, 1, 111, 12, 1, 5, 5, 5, 5),
            9, 0, 0, 9, 1, 7, 6, 2, 7);
        due.faultsAre("the first by entries comes first",
            Due.fileOf(67, 70, 1, 2, 0, 12, 1, 1, 10, 1, 5, 5, 5, 5), 9, 0, 0, 9, 1, 4, 6, 2, 4);
    }

    private static void numbers() {
        due.faultsAre("number of none", Due.fileOfChunk(NUMBER), 9, 0, 0, 9, 1, 4, 7, 2, 6);
        due.faultsAre("number of five", Due.fileOfChunk(NUMBER, 1, 2, 3, 4, 5), 9, 0, 0, 9, 1, 4, 7, 2, 6);
        number(-1, 255);
        number(127, 127);
        number(-128, 128);
        number(255, 0, 255);
        number(-256, 255, 0);
        number(0x123456, 0x12, 0x34, 0x56);
        number(-8388608, 128, 0, 0);
        number(Integer.MAX_VALUE, 127, 255, 255, 255);
        number(Integer.MIN_VALUE, 128, 0, 0, 0);
        number(1, 0, 0, 0, 1);
        number(-1, 255, 255, 255, 255);
    }

    private static void number(long worth, int... payload) {
        ChunkLayers x = Due.fileOfChunk(NUMBER, payload);
        due.is("read() of " + worth, x.read(), 1);
        due.is("thing(0, 0) of " + worth, x.thing(0, 0), NUMBER);
        due.is("thing(0, 1) of " + worth, x.thing(0, 1), worth);
        due.is("thing(0, 2) of " + worth, x.thing(0, 2), 1);
        due.is("thing(0, 3) of " + worth, x.thing(0, 3), 0);
        due.shownIs(Long.toString(worth), x, 0);
    }

    private static void rows() {
        due.faultsAre("no words", Due.fileOfChunk(WORDS));
        due.faultsAre("no raw", Due.fileOfChunk(RAW));
        due.faultsAre("words of 20", Due.fileOfChunk(WORDS, Made.filled(20, 126)));
        due.faultsAre("raw of 20", Due.fileOfChunk(RAW, Made.filled(20, 255)));
        due.faultsAre("words of 21", Due.fileOfChunk(WORDS, Made.filled(21, 65)), 9, 0, 0, 9, 1, 4, 7, 2, 6);
        due.faultsAre("raw of 21", Due.fileOfChunk(RAW, Made.filled(21, 255)), 9, 0, 0, 9, 1, 4, 7, 2, 6);
        due.faultsAre("long ahead of sign", Due.fileOfChunk(WORDS, Made.filled(21, 1)), 9, 0, 0, 9, 1, 4, 7, 2, 6);
        due.faultsAre("31", Due.fileOfChunk(WORDS, 32, 126, 31, 127), 9, 0, 0, 9, 1, 4, 7, 2, 9);
        due.faultsAre("127", Due.fileOfChunk(WORDS, 32, 127), 9, 0, 0, 9, 1, 4, 7, 2, 8);
        due.faultsAre("200", Due.fileOfChunk(WORDS, 200), 9, 0, 0, 9, 1, 4, 7, 2, 7);
    }

    private static void groups() {
        int[] one = Made.chunk(1, NUMBER, 5);
        due.faultsAre("empty group", Due.fileOfChunk(GROUP));
        due.faultsAre("six", Due.fileOfChunk(GROUP, Made.join(one, one, one, one, one, one)));
        due.faultsAre("seventh", Due.fileOfChunk(GROUP, Made.join(one, one, one, one, one, one, one)),
            9, 0, 0, 9, 1, 4, 9, 2, 7, 7, 3, 31);
        due.faultsAre("seventh ahead of short",
            Due.fileOfChunk(GROUP, Made.join(one, one, one, one, one, one, new int[] {0})),
            9, 0, 0, 9, 1, 4, 9, 2, 7, 7, 3, 31);
        due.faultsAre("sixth's fault ahead of seventh",
            Due.fileOfChunk(GROUP, Made.join(one, one, one, one, one, Made.chunk(1, 1, 5), one)),
            9, 0, 0, 9, 1, 4, 9, 2, 7, 6, 3, 27);
        due.faultsAre("only a type", Due.fileOfChunk(GROUP, NUMBER), 9, 0, 0, 9, 1, 4, 9, 2, 7, 3, 3, 8);
        due.faultsAre("only type, length", Due.fileOfChunk(GROUP, NUMBER, 0), 9, 0, 0, 9, 1, 4, 9, 2, 7, 3, 3, 9);
        due.faultsAre("no check", Due.fileOfChunk(GROUP, NUMBER, 1, 5), 9, 0, 0, 9, 1, 4, 9, 2, 7, 3, 3, 10);
        due.faultsAre("long", Due.fileOfChunk(GROUP, NUMBER, 255, 5, 5), 9, 0, 0, 9, 1, 4, 9, 2, 7, 3, 3, 11);
        due.faultsAre("check", Due.fileOfChunk(GROUP, NUMBER, 1, 5, 6), 9, 0, 0, 9, 1, 4, 9, 2, 7, 4, 3, 10);
        due.faultsAre("type", Due.fileOfChunk(GROUP, Made.join(one, Made.chunk(1, 0, 5))),
            9, 0, 0, 9, 1, 4, 9, 2, 7, 6, 3, 11);
        due.faultsAre("length", Due.fileOfChunk(GROUP, Made.join(one, Made.chunk(1, NUMBER))),
            9, 0, 0, 9, 1, 4, 9, 2, 7, 7, 3, 12);
        due.faultsAre("long words", Due.fileOfChunk(GROUP, Made.chunk(1, WORDS, Made.filled(21, 65))),
            9, 0, 0, 9, 1, 4, 9, 2, 7, 7, 3, 8);
        due.faultsAre("sign", Due.fileOfChunk(GROUP, Made.chunk(1, WORDS, 65, 10)),
            9, 0, 0, 9, 1, 4, 9, 2, 7, 7, 3, 10);
        due.faultsAre("the group's own check is looked at first",
            Due.fileOf(67, 70, 1, 1, GROUP, 7, 1, NUMBER, 0), 9, 0, 0, 9, 1, 4, 4, 2, 8);
    }

    private static void deep() {
        int[] one = Made.chunk(1, NUMBER, 5);
        due.faultsAre("three groups", Due.fileOfChunk(GROUP, Made.nested(1, 2, one)));
        due.faultsAre("four groups", Due.fileOfChunk(GROUP, Made.nested(1, 3, one)),
            9, 0, 0, 9, 1, 4, 9, 2, 7, 9, 3, 9, 9, 4, 11, 8, 5, 11);
        due.faultsAre("four groups, the last empty", Due.fileOfChunk(GROUP, Made.nested(1, 3, new int[0])),
            9, 0, 0, 9, 1, 4, 9, 2, 7, 9, 3, 9, 9, 4, 11, 8, 5, 11);
        due.faultsAre("five groups", Due.fileOfChunk(GROUP, Made.nested(1, 4, one)),
            9, 0, 0, 9, 1, 4, 9, 2, 7, 9, 3, 9, 9, 4, 11, 8, 5, 11);
        due.faultsAre("the fourth's check first", Due.fileOfChunk(GROUP, Made.nested(1, 2, new int[] {GROUP, 0, 9})),
            9, 0, 0, 9, 1, 4, 9, 2, 7, 9, 3, 9, 9, 4, 11, 4, 5, 13);
        due.faultsAre("number in layer 5", Due.fileOfChunk(GROUP, Made.nested(1, 2, Made.chunk(1, NUMBER))),
            9, 0, 0, 9, 1, 4, 9, 2, 7, 9, 3, 9, 9, 4, 11, 7, 5, 12);
        due.faultsAre("second of the group",
            Due.fileOfChunk(GROUP, Made.join(one, Made.nested(1, 1, Made.chunk(1, 1)))),
            9, 0, 0, 9, 1, 4, 9, 2, 7, 9, 3, 13, 6, 4, 13);
    }

    private static void faultRefusals() {
        ChunkLayers x = Due.fileOf(66);
        due.is("fault(0, 3)", x.fault(0, 3), ChunkLayers.NONE);
        due.is("fault(0, -1)", x.fault(0, -1), ChunkLayers.NONE);
        due.is("fault(-1, 0)", x.fault(-1, 0), ChunkLayers.NONE);
        due.is("fault(9, 3): NONE ahead of -5", x.fault(9, 3), ChunkLayers.NONE);
        due.is("fault(most, 0)", x.fault(Integer.MAX_VALUE, 0), -5);
        ChunkLayers whole = Due.fileOf(67, 70, 1, 0);
        due.is("fault(0, 3) of a whole one", whole.fault(0, 3), ChunkLayers.NONE);
        due.is("fault(-1, 0) of a whole one", whole.fault(-1, 0), ChunkLayers.NONE);
    }

    private static void recovered() {
        due.is("recovered() of nothing", Due.fileOf().recovered(), 0);
        due.is("of a wrong version", Due.fileOf(67, 70, 9, 1, NUMBER, 7, 1, 5, 5).recovered(), 0);
        ChunkLayers x = Due.fileOfText(2, "num 1;str ab;raw 7;set(num 1);num 2;num 3");
        due.is("recovered() of six", x.recovered(), 63);
        x.set(x.at(8), 0);
        due.is("without the second", x.recovered(), 61);
        x.set(x.at(14), 0);
        due.is("without the fourth, too", x.recovered(), 53);
        x.cut(x.count(0) - 1);
        due.is("without the last, too", x.recovered(), 21);
        x.set(3, 9);
        due.is("with a wrong table", x.recovered(), 0);
        // what LAYER 1 has something against does not stand in the way of those behind it
        due.is("first behind the end, over the second",
            Due.fileOf(67, 70, 1, 2, RAW, 10, 9, NUMBER, 10, 1, 5, 5).recovered(), 2);
        due.is("second over the first, third over the second",
            Due.fileOf(67, 70, 1, 3, NUMBER, 13, 1, RAW, 14, 2, NUMBER, 15, 1, 5, 5, 7, 7).recovered(), 5);
        // one whose CHUNK alone has a FAULT does
        due.is("the first's chunk is wrong, the second over it",
            Due.fileOf(67, 70, 1, 2, NUMBER, 10, 1, NUMBER, 11, 1, 5, 6, 6).recovered(), 0);
        due.is("bytes behind the entries like an entry",
            Due.fileOf(67, 70, 1, 1, NUMBER, 10, 1, NUMBER, 12, 1, 5, 5, 6, 6).recovered(), 1);
        due.is("a fault deep in a group",
            Due.fileOf(67, 70, 1, 2, GROUP, 10, 3, NUMBER, 14, 1, 1, 0, 0, 1, 5, 5).recovered(), 2);
    }

    private static void things() {
        ChunkLayers x = Due.fileOfText(3, "set();set(num 1;set(num 2;set();str ab);raw 1);raw 1,2,3;str abcd");
        due.is("read()", x.read(), 4);
        long[][] want = {{GROUP, 0, 1, 1}, {GROUP, 3, 7, 3}, {RAW, 3, 1, 0}, {WORDS, 4, 1, 0}};
        for (int k = 0; k < want.length; k++) {
            for (int what = 0; what < 4; what++) {
                due.is("thing(" + k + ", " + what + ")", x.thing(k, what), want[k][what]);
            }
            due.is("thing(" + k + ", 4)", x.thing(k, 4), ChunkLayers.NO);
            due.is("thing(" + k + ", -1)", x.thing(k, -1), ChunkLayers.NO);
        }
        due.is("thing(4, 0)", x.thing(4, 0), ChunkLayers.NO);
        due.is("thing(-1, 0)", x.thing(-1, 0), ChunkLayers.NO);
        x.set(0, 0);
        due.is("thing(0, 0) of a faulty one", x.thing(0, 0), ChunkLayers.NO);
        ChunkLayers six = Due.fileOfText(1, "set(num 1;set(num 2;num 3);num 4;num 5;set(num 6);num 7)");
        due.is("thing(0, 1) of six", six.thing(0, 1), 6);
        due.is("thing(0, 2) of six", six.thing(0, 2), 10);
        due.is("thing(0, 3) of six", six.thing(0, 3), 2);
        // the THINGS stand by ENTRIES, not by places
        ChunkLayers turned = Due.fileOf(67, 70, 1, 2, NUMBER, 12, 1, NUMBER, 10, 1, 1, 1, 2, 2);
        due.is("thing(0, 1) turned", turned.thing(0, 1), 2);
        due.is("thing(1, 1) turned", turned.thing(1, 1), 1);
    }

    private static void shown() {
        ChunkLayers x = Due.fileOfText(3, "set();set(num -1;set(num 20;set();str ab);raw 1);raw 100,20,3;raw ;str ");
        due.shownIs("()", x, 0);
        due.shownIs("(-1;(20;();\"ab\");<1>)", x, 1);
        due.shownIs("<100,20,3>", x, 2);
        due.shownIs("<>", x, 3);
        due.shownIs("\"\"", x, 4);
        due.is("shown(5, 0)", x.shown(5, 0), ChunkLayers.NONE);
        due.is("shown(-1, 0)", x.shown(-1, 0), ChunkLayers.NONE);
        x.put(0);
        due.shownIs("()", x, 0);
        x.set(0, 0);
        due.is("shown(0, 0) of a faulty one", x.shown(0, 0), ChunkLayers.NONE);
        due.shownIs("\" \"~\"", Due.fileOfChunk(WORDS, 32, 34, 126), 0);
        int[] full = Made.chunk(1, RAW, Made.filled(20, 255));
        StringBuilder longest = new StringBuilder("(");
        for (int k = 0; k < 4; k++) {
            longest.append(k == 0 ? "<255" : ";<255").append(",255".repeat(19)).append(">");
        }
        due.shownIs(longest.append(")").toString(), Due.fileOfChunk(GROUP, Made.join(full, full, full, full)), 0);
    }

    private static void taken() {
        ChunkLayers x = Due.fileOfText(1, "num 1;str a;raw 1;set(num 1)");
        int[] types = {NUMBER, WORDS, RAW, GROUP};
        for (int k = 0; k < 4; k++) {
            for (int sort = 0; sort < 4; sort++) {
                due.is("taken(" + k + ", " + sort + ")", x.taken(k, sort), k == sort ? types[k] : -12);
            }
        }
        due.is("taken(0, 4)", x.taken(0, 4), ChunkLayers.BAD);
        due.is("taken(0, -1)", x.taken(0, -1), ChunkLayers.BAD);
        due.is("taken(9, 4): BAD is named first", x.taken(9, 4), ChunkLayers.BAD);
        due.is("taken(4, 0)", x.taken(4, 0), -11);
        due.is("taken(-1, 0)", x.taken(-1, 0), -11);
        x.cut(3);
        due.is("taken(0, 0) of a faulty one", x.taken(0, 0), -11);
        due.is("taken(0, 9) of a faulty one", x.taken(0, 9), ChunkLayers.BAD);
    }
}
