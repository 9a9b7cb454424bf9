import java.lang.management.ManagementFactory;

/** What a run makes is counted (LANGUAGE.md, rule 12): the dearest calls, as many as a run has, stay in the room. */
public final class RoomTest {
    private static final int CALLS = 512;
    /** Some 600,000 objects and arrays (their heads, of 16 bytes), 7.3 million fields and elements (of 8). */
    private static final long ROOM = 600_000L * 16 + 7_300_000L * 8;
    private static final Due due = new Due("RoomTest");
    private static long answers = 0;

    public static void main(String[] args) {
        // what the Java library makes at first use (of the bean itself, too) is not the class's
        made();
        long before = made();
        for (int k = 0; k < CALLS / 64; k++) {
            ChunkLayers x = Due.fileOfChunk(103, fullGroup());
            due.is("read()", x.read(), 1);
            x.tape(0, 0, 60);
            dearCalls(x);
            dearCalls(x);
        }
        long run = made() - before;
        due.holds("a run stays in the room: " + run, run < ROOM);
        due.holds("answers were asked", answers != 0);
        due.end();
    }

    private static int[] fullGroup() {
        int[] one = Made.chunk(1, 110, 5);
        int[] six = Made.join(one, one, one, one, one, one);
        int[] inner = Made.chunk(1, 103, six);
        return Made.join(inner, inner, inner, Made.chunk(1, 114, 255, 254, 253));
    }

    private static void dearCalls(ChunkLayers x) {
        String text = "set(num 7;set(raw 1,2,3;str abc));num 5";
        for (int k = 0; k < text.length(); k++) {
            answers += x.feed(text.charAt(k));
        }
        x.image();
        answers += x.write(3);
        answers += x.undo();
        answers += x.flips();
        answers += x.odds(0);
        answers += x.mends(9, 0);
        answers += x.shown(0, 9);
        answers += x.mean(0);
        answers += x.as(3, 0);
        answers += x.fits(2);
        answers += x.ends(0);
        answers += x.ends(1);
        answers += x.thing(0, 3);
        answers += x.taken(0, 3);
        answers += x.recovered();
        answers += x.fault(0, 0);
        answers += x.judge(0, 0);
        answers += x.tape(1, 3, 60);
        answers += x.tape(2, 3, 60);
        answers += x.shift(1, 0, 2, 0, 60);
    }

    private static long made() {
        return ((com.sun.management.ThreadMXBean) ManagementFactory.getThreadMXBean())
            .getCurrentThreadAllocatedBytes();
    }
}
