import java.lang.management.ManagementFactory;

/** What a run makes is counted (LANGUAGE.md, rule 12): no call makes anything, and an object stays small. */
public final class RoomTest {
    private static final int CALLS = 512;
    private static final long MOST_BYTES_OF_AN_OBJECT = 40_000;
    private static final Due due = new Due("RoomTest");
    private static long answers = 0;

    public static void main(String[] args) {
        ChunkLayers x = Due.fileOfChunk(103, fullGroup());
        due.is("read()", x.read(), 1);
        x.tape(0, 0, 60);
        dearCalls(x);
        // what the Java library makes at first use (of the bean itself, too) is not the class's
        made();
        long before = made();
        new ChunkLayers();
        long object = made() - before;
        due.holds("an object is small: " + object, object < MOST_BYTES_OF_AN_OBJECT);
        before = made();
        for (int k = 0; k < CALLS / 32; k++) {
            dearCalls(x);
        }
        long calls = made() - before;
        due.holds("the calls make nothing: " + calls, calls < 2_000);
        due.holds("answers were asked", answers != 0);
        due.end();
    }

    private static int[] fullGroup() {
        int[] one = Due.inGroup(110, 5);
        int[] six = Due.together(one, one, one, one, one, one);
        int[] inner = Due.inGroup(103, six);
        return Due.together(inner, inner, inner, Due.inGroup(114, 255, 254, 253));
    }

    private static void dearCalls(ChunkLayers x) {
        String text = "set(num 7;set(raw 1,2,3;str abc));num 5";
        for (int k = 0; k < text.length(); k++) {
            answers += x.feed(text.charAt(k));
        }
        x.image();
        answers += x.write(3);
        answers += x.undo();
        answers += x.flips();
        answers += x.odds(0);
        answers += x.mends(9, 0);
        answers += x.shown(0, 9);
        answers += x.mean(0);
        answers += x.as(3, 0);
        answers += x.fits(2);
        answers += x.ends(0);
        answers += x.ends(1);
        answers += x.thing(0, 3);
        answers += x.taken(0, 3);
        answers += x.recovered();
        answers += x.fault(0, 0);
        answers += x.judge(0, 0);
        answers += x.tape(1, 3, 60);
        answers += x.tape(2, 3, 60);
        answers += x.shift(1, 0, 2, 0, 60);
    }

    private static long made() {
        return ((com.sun.management.ThreadMXBean) ManagementFactory.getThreadMXBean())
            .getCurrentThreadAllocatedBytes();
    }
}
