import java.lang.reflect.InvocationTargetException;
import java.lang.reflect.Method;
import java.util.ArrayList;
import java.util.Arrays;
import java.util.HashMap;
import java.util.List;
import java.util.Map;
import java.util.Set;

/**
 * A run of calls on a new object, held against a sentence of the document. At its end new objects are asked whether
 * the calls that were refused, and those that only ask, have changed anything: one has had them, one has not.
 */
final class Run {
    static final int NONE = -1, BAD = -2, STATE = -3, FULL = -4;
    static final int NO_SUCH = -5, NOTHING = -11, CAST = -12, PLACE = -13, SIZE = -14;
    static final long NO = Long.MIN_VALUE;
    static final long LEAST = Integer.MIN_VALUE, MOST = Integer.MAX_VALUE;
    static final long[] NO_BYTES = {LEAST, -1, 256, MOST};
    static final long[] NO_VERSIONS = {LEAST, -1, 0, 4, MOST};

    /** An object answers 512 calls; the last of them are for the looks. */
    private static final int MOST_CALLS = 300, MOST_LOOKS = 200;
    private static final Set<Long> REFUSALS = Set.of(-1L, -2L, -3L, -4L, -11L, -12L, -13L, -14L, NO);
    private static final Set<String> ASKS = Set.of("at", "check", "read", "fault", "recovered", "thing", "shown",
        "mends", "flips", "as", "fits", "odds", "mean", "ends", "looked", "judge", "taken", "count", "peek");
    private static final Map<String, Method> METHODS = new HashMap<>();
    private static final List<List<Call>> LOOKS = new ArrayList<>();

    static {
        for (Method method : ChunkLayers.class.getDeclaredMethods()) {
            if (java.lang.reflect.Modifier.isPublic(method.getModifiers())) {
                METHODS.put(method.getName(), method);
            }
        }
        makeLooks();
    }

    private record Call(String name, long[] arguments, boolean changes) {
        @Override
        public String toString() {
            String told = Arrays.toString(arguments);
            return name + "(" + told.substring(1, told.length() - 1) + ")";
        }
    }

    private final Held held;
    private final String where;
    private final ChunkLayers x = new ChunkLayers();
    private final List<Call> calls = new ArrayList<>();
    private long bytes = 0;
    private boolean ended = false;

    Run(Held held, String where) {
        this.held = held;
        this.where = where;
    }

    // ---- calls

    /** A call whose answer is due. */
    void due(long want, String name, long... arguments) {
        ask(want, new Call(name, arguments, !ASKS.contains(name)));
        if (name.equals("cut")) {
            bytes = arguments[0];
        } else if (want >= 0 && Set.of("put", "write", "undo").contains(name)) {
            bytes = want;
        }
    }

    /** A call that is refused so, and by that changes nothing. */
    void refused(long want, String name, long... arguments) {
        if (!REFUSALS.contains(want)) {
            throw new IllegalArgumentException(want + " is no refusal");
        }
        ask(want, new Call(name, arguments, false));
    }

    private void ask(long want, Call call) {
        calls.add(call);
        if (ended || calls.size() > MOST_CALLS) {
            throw new IllegalStateException("too late a call: " + where);
        }
        held.answered(where + ": " + call, answerOf(x, call), want);
    }

    private static String answerOf(ChunkLayers of, Call call) {
        Method method = METHODS.get(call.name);
        Object[] told = new Object[call.arguments.length];
        for (int k = 0; k < told.length; k++) {
            boolean isLong = method.getParameterTypes()[k] == long.class;
            told[k] = isLong ? (Object) call.arguments[k] : (Object) Math.toIntExact(call.arguments[k]);
        }
        try {
            return method.invoke(of, told).toString();
        } catch (InvocationTargetException thrown) {
            return thrown.getCause().toString();
        } catch (IllegalAccessException no) {
            return no.toString();
        }
    }

    // ---- several calls

    void file(int... all) {
        for (int k = 0; k < all.length; k++) {
            due(k + 1, "put", all[k]);
        }
    }

    /** Another file in place of the one that is there. */
    void fileNow(int... other) {
        due(bytes, "cut", 0);
        file(other);
    }

    void text(String signs) {
        for (int k = 0; k < signs.length(); k++) {
            due(k + 1, "feed", signs.charAt(k));
        }
    }

    /** A TAPE becomes a row of bytes. */
    void row(int tape, int... items) {
        due(1, "tape", tape, 0, items.length);
        for (int i = 0; i < items.length; i++) {
            due(1, "item", tape, i, items[i]);
        }
    }

    /** THE FILE is these bytes, and ends behind them. */
    void fileIs(int... all) {
        due(all.length, "count", 0);
        for (int place = 0; place < all.length; place++) {
            due(all[place], "at", place);
        }
        due(NONE, "at", all.length);
    }

    /** THE FAULT and its CAUSES, from LAYER 0 on: what, LAYER, place of each; no other behind them. */
    void faults(int... told) {
        for (int k = 0; k < told.length; k++) {
            due(told[k], "fault", k / 3, k % 3);
        }
        for (int what = 0; what < 3; what++) {
            due(NO_SUCH, "fault", told.length / 3, what);
        }
        if (told.length > 0) {
            due(-100 - told[told.length - 3], "read");
        }
    }

    /** THE FILE is READ whole, with so many THINGS. */
    void whole(int things) {
        due(things, "read");
        faults();
    }

    /** What is wrong with an OFFSET, that of an ENTRY (from 0). */
    void offsetFault(int entry) {
        faults(9, 0, 0, 5, 1, 5 + 3 * entry);
    }

    /** The FAULT of a CHUNK that an ENTRY (from 0) tells, with WITHIN of LAYER 1 and LAYER 0 above it. */
    void chunkFault(int entry, int... told) {
        faults(Made.join(Made.row(9, 0, 0, 9, 1, 4 + 3 * entry), told));
    }

    void shown(int k, String signs) {
        due(NONE, "shown", k, -1);
        for (int i = 0; i < signs.length(); i++) {
            due(signs.charAt(i), "shown", k, i);
        }
        due(NONE, "shown", k, signs.length());
    }

    void items(int tape, long... items) {
        for (int i = 0; i < items.length; i++) {
            due(items[i], "peek", tape, i);
        }
        due(NO, "peek", tape, items.length);
    }

    // ---- what has changed

    private static void makeLooks() {
        List<Call> bytes = new ArrayList<>();
        for (int what = 0; what < 5; what++) {
            look(bytes, "count", what);
        }
        for (int place = 0; place < 120; place++) {
            look(bytes, "at", place);
        }
        List<Call> whole = new ArrayList<>();
        look(whole, "read");
        look(whole, "recovered");
        look(whole, "looked");
        look(whole, "ends", 0);
        look(whole, "ends", 1);
        for (int version = 1; version <= 3; version++) {
            look(whole, "fits", version);
        }
        for (int k = 0; k < 7; k++) {
            look(whole, "thing", k, 0);
            look(whole, "thing", k, 1);
            look(whole, "fault", k, 2);
        }
        LOOKS.add(bytes);
        LOOKS.add(whole);
        for (String change : List.of("undo", "write")) {
            List<Call> after = new ArrayList<>();
            look(after, change, change.equals("write") ? new long[] {1} : new long[0]);
            after.addAll(bytes);
            after.addAll(whole);
            LOOKS.add(after);
        }
        for (int half = 0; half < 6; half += 3) {
            List<Call> tapes = new ArrayList<>();
            for (int place = 0; place < 3 * 61; place++) {
                look(tapes, "peek", half + place / 61, place % 61);
            }
            LOOKS.add(tapes);
        }
    }

    private static void look(List<Call> looks, String name, long... arguments) {
        looks.add(new Call(name, arguments, false));
        if (looks.size() > MOST_LOOKS) {
            throw new IllegalStateException("too many looks");
        }
    }

    /** The run is over: what it was refused, and what it asked, has changed nothing. */
    void end() {
        ended = true;
        if (calls.stream().allMatch(call -> call.changes)) {
            return;
        }
        for (List<Call> looks : LOOKS) {
            ChunkLayers all = new ChunkLayers();
            ChunkLayers changesAlone = new ChunkLayers();
            for (Call call : calls) {
                answerOf(all, call);
                if (call.changes) {
                    answerOf(changesAlone, call);
                }
            }
            for (Call call : looks) {
                held.same(where + ": refused or asked, and " + call + " behind the run", answerOf(all, call),
                    answerOf(changesAlone, call));
            }
        }
    }
}
