/** Promises 25 and 30 to 33: judge, tape, item, peek, shift. */
public final class TapesTest {
    private static final Due due = new Due("TapesTest");
    private static final int NOTHING = -11, CAST = -12, PLACE = -13, SIZE = -14;

    public static void main(String[] args) {
        tape();
        item();
        shift();
        shiftOver();
        judge();
        judgeEdges();
        due.end();
    }

    private static void tape() {
        ChunkLayers x = new ChunkLayers();
        for (int t = 0; t < 6; t++) {
            due.is("peek(" + t + ", 0), nothing", x.peek(t, 0), ChunkLayers.NO);
        }
        due.is("tape(-1, 0, 0)", x.tape(-1, 0, 0), ChunkLayers.NONE);
        due.is("tape(6, 9, 99): NONE is named first", x.tape(6, 9, 99), ChunkLayers.NONE);
        due.is("tape(0, 5, 0)", x.tape(0, 5, 0), ChunkLayers.BAD);
        due.is("tape(0, -2, -1): BAD is named first", x.tape(0, -2, -1), ChunkLayers.BAD);
        due.is("tape(0, 0, 61)", x.tape(0, 0, 61), ChunkLayers.BAD);
        due.is("tape(0, 0, -1)", x.tape(0, 0, -1), SIZE);
        due.is("item(0, 0, 0): nothing came", x.item(0, 0, 0), NOTHING);
        for (int sort = 0; sort <= 4; sort++) {
            due.is("tape(5, " + sort + ", 60)", x.tape(5, sort, 60), 1);
            due.is("peek(5, 59)", x.peek(5, 59), 0);
            due.is("peek(5, 60)", x.peek(5, 60), ChunkLayers.NO);
            due.is("peek(5, -1)", x.peek(5, -1), ChunkLayers.NO);
            due.is("item(5, 59, 1)", x.item(5, 59, 1), 1);
            due.is("peek(5, 59)", x.peek(5, 59), 1);
        }
        due.is("tape(5, 0, 0)", x.tape(5, 0, 0), 1);
        due.is("peek(5, 0)", x.peek(5, 0), ChunkLayers.NO);
        due.is("item(5, 0, 0): no place", x.item(5, 0, 0), PLACE);
        due.is("tape(5, 3, 2)", x.tape(5, 3, 2), 1);
        due.is("item(5, 0, 9)", x.item(5, 0, 9), 1);
        due.is("tape(5, 3, 2) again", x.tape(5, 3, 2), 1);
        due.is("peek(5, 0): all 0", x.peek(5, 0), 0);
        due.is("tape(5, 3, 61): refused", x.tape(5, 3, 61), ChunkLayers.BAD);
        due.is("peek(5, 1): as it was", x.peek(5, 1), 0);
        due.is("tape(5, -1, -9)", x.tape(5, -1, -9), 1);
        due.is("peek(5, 0)", x.peek(5, 0), ChunkLayers.NO);
        due.is("item(5, 0, 0)", x.item(5, 0, 0), NOTHING);
    }

    private static void item() {
        ChunkLayers x = new ChunkLayers();
        long[] values = {0, 1, -1, 127, 128, 200, 255, 256, 32768, 70000, 9999999999L, Long.MIN_VALUE, Long.MAX_VALUE};
        for (int sort = 0; sort <= 4; sort++) {
            x.tape(sort, sort, 3);
            for (long v : values) {
                long want = sort == 0 ? (byte) v : sort == 1 ? (short) v : sort == 2 ? (int) v
                    : sort == 3 ? v : v != 0 ? 1 : 0;
                due.is("item(" + sort + ", 1, " + v + ")", x.item(sort, 1, v), 1);
                due.is("peek of " + v, x.peek(sort, 1), want);
            }
            due.is("peek(" + sort + ", 0)", x.peek(sort, 0), 0);
            due.is("peek(" + sort + ", 2)", x.peek(sort, 2), 0);
            due.is("item at 3", x.item(sort, 3, 1), PLACE);
            due.is("item at -1", x.item(sort, -1, 1), PLACE);
        }
        due.is("item(6, 0, 0)", x.item(6, 0, 0), ChunkLayers.NONE);
        due.is("item(-1, 0, 0)", x.item(-1, 0, 0), ChunkLayers.NONE);
        due.is("item(5, -1, 0): NOTHING is named first", x.item(5, -1, 0), NOTHING);
        due.is("peek(6, 0)", x.peek(6, 0), ChunkLayers.NO);
        due.is("peek(-1, 0)", x.peek(-1, 0), ChunkLayers.NO);
    }

    private static void shift() {
        ChunkLayers x = new ChunkLayers();
        x.tape(0, 1, 5);
        x.tape(1, 1, 3);
        x.tape(2, 2, 3);
        for (int i = 0; i < 5; i++) {
            x.item(0, i, 10 + i);
        }
        due.is("shift(0, 1, 1, 0, 3)", x.shift(0, 1, 1, 0, 3), 3);
        row(x, 1, 11, 12, 13);
        row(x, 0, 10, 11, 12, 13, 14);
        due.is("shift of none at the ends", x.shift(0, 5, 1, 3, 0), 0);
        due.is("shift(0, 2, 1, 0, 4)", x.shift(0, 2, 1, 0, 4), PLACE);
        due.is("shift(1, 0, 0, 3, 3)", x.shift(1, 0, 0, 3, 3), PLACE);
        due.is("shift(0, 6, 1, 0, 0)", x.shift(0, 6, 1, 0, 0), PLACE);
        due.is("shift(0, 0, 1, 4, 0)", x.shift(0, 0, 1, 4, 0), PLACE);
        due.is("shift(0, -1, 1, 0, 1)", x.shift(0, -1, 1, 0, 1), PLACE);
        due.is("shift(0, 0, 1, -1, 1)", x.shift(0, 0, 1, -1, 1), PLACE);
        due.is("shift(0, 0, 1, 0, -1)", x.shift(0, 0, 1, 0, -1), PLACE);
        due.is("shift of most", x.shift(0, 1, 1, 1, Integer.MAX_VALUE), PLACE);
        due.is("shift from most", x.shift(0, Integer.MAX_VALUE, 1, 0, 1), PLACE);
        due.is("shift to most", x.shift(0, 0, 1, Integer.MAX_VALUE, 1), PLACE);
        due.is("shift to unlike", x.shift(0, 0, 2, 0, 1), CAST);
        due.is("shift to unlike, no place: CAST is named first", x.shift(0, -1, 2, 0, -1), CAST);
        due.is("shift to nothing: NOTHING is named first", x.shift(0, -1, 3, 0, 1), NOTHING);
        due.is("shift from nothing", x.shift(3, 0, 0, 0, 1), NOTHING);
        due.is("shift(6, 0, 3, 0, 1): NONE is named first", x.shift(6, 0, 3, 0, 1), ChunkLayers.NONE);
        due.is("shift(3, 0, 6, 0, 1)", x.shift(3, 0, 6, 0, 1), ChunkLayers.NONE);
        due.is("shift(-1, 0, 0, 0, 0)", x.shift(-1, 0, 0, 0, 0), ChunkLayers.NONE);
        due.is("shift(0, 0, -1, 0, 0)", x.shift(0, 0, -1, 0, 0), ChunkLayers.NONE);
        row(x, 1, 11, 12, 13);
        row(x, 0, 10, 11, 12, 13, 14);
        row(x, 2, 0, 0, 0);
    }

    private static void shiftOver() {
        ChunkLayers x = new ChunkLayers();
        x.tape(0, 3, 5);
        for (int i = 0; i < 5; i++) {
            x.item(0, i, 10 + i);
        }
        due.is("shift up over itself", x.shift(0, 0, 0, 1, 4), 4);
        row(x, 0, 10, 10, 11, 12, 13);
        due.is("shift down over itself", x.shift(0, 2, 0, 0, 3), 3);
        row(x, 0, 11, 12, 13, 12, 13);
    }

    private static void row(ChunkLayers x, int tape, long... want) {
        for (int i = 0; i < want.length; i++) {
            due.is("peek(" + tape + ", " + i + ")", x.peek(tape, i), want[i]);
        }
        due.is("peek(" + tape + ", behind)", x.peek(tape, want.length), ChunkLayers.NO);
    }

    private static void judge() {
        ChunkLayers x = Due.fileOf(5, 200, 7);
        x.tape(0, 0, 6);
        long[] items = {1, 5, -56, 7, 5, 200};
        for (int i = 0; i < items.length; i++) {
            x.item(0, i, items[i]);
        }
        due.is("judge(0, 1): all as it is", x.judge(0, 1), -5);
        due.is("judge(0, 0)", x.judge(0, 0), 0);
        due.is("judge(0, 4): ends ahead", x.judge(0, 4), 1002);
        due.is("judge(0, 6)", x.judge(0, 6), 1000);
        due.is("judge(0, 7)", x.judge(0, 7), 1000);
        due.is("judge(0, -1)", x.judge(0, -1), 1000);
        x.item(0, 3, 8);
        due.is("judge(0, 1): the third", x.judge(0, 1), 2);
        x.item(0, 2, 56);
        due.is("judge(0, 1): the second", x.judge(0, 1), 1);
    }

    private static void judgeEdges() {
        ChunkLayers x = Due.fileOf(5);
        due.is("judge(1, 0), nothing", x.judge(1, 0), 1000);
        due.is("judge(1, -7), nothing", x.judge(1, -7), 1000);
        due.is("judge(6, 0)", x.judge(6, 0), ChunkLayers.NONE);
        due.is("judge(-1, 0)", x.judge(-1, 0), ChunkLayers.NONE);
        for (int sort = 1; sort <= 4; sort++) {
            x.tape(0, sort, 3);
            due.is("judge of sort " + sort, x.judge(0, 0), CAST);
            due.is("judge of sort " + sort + " from -1", x.judge(0, -1), CAST);
        }
        x.tape(0, 0, 0);
        due.is("judge of no items", x.judge(0, 0), 1000);
        due.is("judge from most", x.judge(0, Integer.MAX_VALUE), 1000);
        due.is("judge from least", x.judge(0, Integer.MIN_VALUE), 1000);
        x.cut(0);
        x.tape(2, 1, 3);
        due.is("judge of nothing, no items", x.judge(0, 0), -5);
        due.is("judge of nothing, from -1", x.judge(0, -1), -5);
        due.is("judge of nothing, from 99", x.judge(0, 99), -5);
        due.is("judge of nothing, the tape holds nothing", x.judge(1, 5), -5);
        due.is("judge of nothing, no such tape", x.judge(6, 0), ChunkLayers.NONE);
        due.is("judge of nothing, no bytes: CAST is named first", x.judge(2, 0), CAST);
    }
}
