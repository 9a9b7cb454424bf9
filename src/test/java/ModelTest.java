import java.lang.reflect.Method;
import java.util.ArrayList;
import java.util.Arrays;
import java.util.Collections;
import java.util.List;
import java.util.Map;
import java.util.Random;
import java.util.TreeMap;

/** Many runs of calls, by fixed seeds, on ChunkLayers and on the Model: each answer is due twice. */
public final class ModelTest {
    private static final int RUNS = 3000;
    /** What an object answers to later calls is free. */
    private static final int MOST_CALLS = 512;
    private static final int SHOWN_AT_MOST = 20;
    private static final int[] WILD = {Integer.MIN_VALUE, Integer.MIN_VALUE + 1, Integer.MAX_VALUE,
        Integer.MAX_VALUE - 1, -1000, 1000, 256, 120, 1 << 24, 1 << 31 - 7};
    private static final Map<String, Integer> answered = new TreeMap<>();
    private static final List<Method> calls = new ArrayList<>();
    private static int wrong = 0;
    private static int asked = 0;

    private final Random random;
    private final ChunkLayers x = new ChunkLayers();
    private final Model model = new Model();
    private final StringBuilder story = new StringBuilder();
    private int asks = 0;

    private ModelTest(long seed) {
        random = new Random(seed);
    }

    public static void main(String[] args) throws Exception {
        for (Method call : ChunkLayers.class.getDeclaredMethods()) {
            if (java.lang.reflect.Modifier.isPublic(call.getModifiers())) {
                calls.add(call);
            }
        }
        calls.sort((a, b) -> a.getName().compareTo(b.getName()));
        int runs = args.length > 0 ? Integer.parseInt(args[0]) : RUNS;
        long first = args.length > 1 ? Long.parseLong(args[1]) : 1;
        for (long seed = first; seed < first + runs && wrong < SHOWN_AT_MOST; seed++) {
            new ModelTest(seed).run();
        }
        for (Method call : calls) {
            if (!answered.containsKey(call.getName())) {
                wrong++;
                System.out.println("ModelTest: never asked: " + call.getName());
            }
        }
        if (args.length > 2) {
            answered.forEach((what, many) -> System.out.println(what + ": " + many));
        }
        System.out.println("ModelTest: " + asked + " answers, " + wrong + " not as due");
        if (wrong != 0) {
            System.exit(1);
        }
    }

    private void run() throws Exception {
        while (asks < MOST_CALLS) {
            int start = random.nextInt(10);
            if (start < 3) {
                tellFile(damaged(fileBytes()));
            } else if (start < 6) {
                tellText();
            }
            for (int k = random.nextInt(40); k > 0; k--) {
                Method call = calls.get(random.nextInt(calls.size()));
                ask(call, arguments(call));
            }
            if (random.nextInt(4) == 0) {
                lookAtAll();
            }
        }
    }

    private void ask(String name, long... arguments) throws Exception {
        for (Method call : calls) {
            if (call.getName().equals(name)) {
                ask(call, arguments);
            }
        }
    }

    private void ask(Method call, long[] arguments) throws Exception {
        if (asks >= MOST_CALLS) {
            return;
        }
        asks++;
        Object[] told = new Object[arguments.length];
        for (int k = 0; k < told.length; k++) {
            boolean isLong = call.getParameterTypes()[k] == long.class;
            told[k] = isLong ? (Object) arguments[k] : (Object) (int) arguments[k];
        }
        story.append(call.getName()).append(Arrays.toString(told)).append(' ');
        long got = ((Number) call.invoke(x, told)).longValue();
        Method due = Model.class.getDeclaredMethod(call.getName(), call.getParameterTypes());
        long want = ((Number) due.invoke(model, told)).longValue();
        asked++;
        answered.merge(call.getName(), 1, Integer::sum);
        if (got < 0) {
            answered.merge(call.getName() + " " + got, 1, Integer::sum);
        }
        if (got != want) {
            wrong++;
            System.out.println("ModelTest: " + call.getName() + Arrays.toString(told) + " answered " + got
                + ", due is " + want + ", by " + model);
            if (wrong == 1) {
                System.out.println(story);
            }
        }
    }

    private void lookAtAll() throws Exception {
        ask("read");
        ask("recovered");
        ask("looked");
        for (int k = 0; k < 7; k++) {
            for (int part = 0; part < 3; part++) {
                ask("fault", k, part);
            }
        }
        for (int k = 0; k < 3; k++) {
            for (int what = 0; what < 4; what++) {
                ask("thing", k, what);
            }
            for (int i = 0; i < 12; i++) {
                ask("shown", k, i);
            }
        }
        for (int version = 1; version <= 3; version++) {
            ask("as", version, 0);
            ask("as", version, 1);
            ask("fits", version);
        }
        ask("mean", 0);
        ask("mean", 1);
    }

    // ---- arguments: mostly such as mean something, at times wild ones

    private long[] arguments(Method call) {
        int n = call.getParameterCount();
        long[] arguments = new long[n];
        for (int k = 0; k < n; k++) {
            int sort = random.nextInt(12);
            arguments[k] = sort < 7 ? random.nextInt(9) - 2 : sort < 9 ? random.nextInt(64) : sort < 11
                ? random.nextInt(300) - 20 : WILD[random.nextInt(WILD.length)];
        }
        switch (call.getName()) {
            case "mends", "set":
                arguments[0] = random.nextInt(40) - 1;
                break;
            case "cut":
                arguments[0] = random.nextInt(120);
                break;
            case "see", "book":
                seeOrBook(arguments);
                break;
            case "tape", "item", "peek", "shift", "judge":
                tapeCall(call.getName(), arguments);
                break;
            case "thing", "shown", "taken", "plan", "check", "as", "fits", "ends", "odds", "mean":
                small(call.getName(), arguments);
                break;
            default:
                break;
        }
        return arguments;
    }

    /** Mostly a TAPE that there is; two of them more often, so that they hold rows of one sort at times. */
    private void tapeCall(String name, long[] arguments) {
        if (random.nextInt(4) == 0) {
            return;
        }
        arguments[0] = random.nextInt(random.nextBoolean() ? 2 : 6);
        if (name.equals("tape")) {
            arguments[1] = random.nextInt(3) > 0 ? random.nextInt(2) : random.nextInt(6) - 1;
            arguments[2] = random.nextInt(3) > 0 ? random.nextInt(12) : random.nextInt(64) - 2;
            return;
        }
        arguments[1] = random.nextInt(8) - 1;
        if (name.equals("item")) {
            arguments[2] = random.nextInt(3) == 0 ? random.nextLong() : byteOfFile(random.nextInt(20));
        } else if (name.equals("shift")) {
            arguments[2] = random.nextInt(random.nextBoolean() ? 2 : 6);
            arguments[3] = random.nextInt(8) - 1;
            arguments[4] = random.nextInt(8) - 1;
        }
    }

    /** Mostly numbers that these calls have, and at times those beside them. */
    private void small(String name, long[] arguments) {
        if (random.nextInt(4) == 0) {
            return;
        }
        for (int k = 0; k < arguments.length; k++) {
            arguments[k] = random.nextInt(5) - (name.equals("plan") && random.nextInt(4) > 0 ? 0 : 1);
        }
        if (name.equals("shown")) {
            arguments[1] = random.nextInt(60) - 2;
        } else if (name.equals("plan")) {
            arguments[1] = random.nextInt(random.nextBoolean() ? 40 : 122) - 1;
        } else if (name.equals("check")) {
            arguments[1] = random.nextInt(30) - 1;
            arguments[2] = random.nextInt(30) - 1;
        }
    }

    private void seeOrBook(long[] arguments) {
        int place = random.nextInt(30);
        if (random.nextInt(3) > 0 && model.at(place) >= 0) {
            arguments[0] = place;
            arguments[1] = model.at(place);
        }
    }

    private int byteOfFile(int place) {
        return Math.max(model.at(place), 0);
    }

    // ---- files

    private void tellFile(List<Integer> bytes) throws Exception {
        ask("cut", 0);
        for (int b : bytes) {
            ask("put", b);
        }
        if (random.nextInt(3) == 0) {
            ask("tape", 0, 0, random.nextInt(30));
            for (int k = 0; k < 30; k++) {
                ask("item", 0, k, byteOfFile(k));
            }
            ask("judge", 0, 0);
        }
    }

    private List<Integer> damaged(List<Integer> bytes) {
        int damages = Math.max(0, random.nextInt(6) - 3);
        for (int k = 0; k < damages && !bytes.isEmpty(); k++) {
            int sort = random.nextInt(4);
            int place = random.nextInt(sort == 0 ? Math.min(bytes.size(), 22) : bytes.size());
            if (sort < 3) {
                bytes.set(place, sort == 1 ? random.nextInt(256) : bytes.get(place) ^ 1 << random.nextInt(8));
            } else {
                bytes = new ArrayList<>(bytes.subList(0, place));
            }
        }
        return bytes;
    }

    /** ENTRIES with their CHUNKS in any order, with gaps; now and then a CHUNK that is wrong under a right CHECK. */
    private List<Integer> fileBytes() {
        int version = 1 + random.nextInt(3);
        int entries = random.nextInt(random.nextBoolean() ? 3 : 7);
        List<Integer> order = new ArrayList<>();
        for (int e = 0; e < entries; e++) {
            order.add(e);
        }
        if (random.nextInt(3) == 0) {
            Collections.shuffle(order, random);
        }
        List<Integer> bytes = new ArrayList<>(List.of(67, 70, version, entries));
        bytes.addAll(Collections.nCopies(3 * entries, 0));
        for (int e : order) {
            for (int gap = random.nextInt(8) - 5; gap > 0; gap--) {
                bytes.add(random.nextInt(256));
            }
            List<Integer> chunk = chunk(version, 0, 60);
            List<Integer> payload = chunk.subList(2, chunk.size() - 1);
            bytes.set(4 + 3 * e, chunk.get(0));
            bytes.set(5 + 3 * e, Math.min(bytes.size(), 255));
            bytes.set(6 + 3 * e, payload.size());
            if (random.nextInt(20) == 0) {
                bytes.set(5 + 3 * e, random.nextInt(Math.min(bytes.size() + 5, 256)));
            }
            bytes.addAll(payload);
            bytes.add(chunk.get(chunk.size() - 1));
        }
        return bytes.size() <= 120 ? bytes : new ArrayList<>(bytes.subList(0, 120));
    }

    private List<Integer> chunk(int version, int groups, int most) {
        int type = "nnssrrgggg".charAt(random.nextInt(10));
        List<Integer> payload = new ArrayList<>();
        if (type == 'g') {
            int many = random.nextInt(30) == 0 ? 7 + random.nextInt(2) : random.nextInt(4);
            for (int k = 0; k < many && groups < 5; k++) {
                payload.addAll(chunk(version, groups + 1, Math.max(1, most / 3)));
            }
            if (random.nextInt(30) == 0 && !payload.isEmpty()) {
                payload = new ArrayList<>(payload.subList(0, random.nextInt(payload.size())));
            }
        } else {
            int length = type == 'n' ? 1 + random.nextInt(4) : random.nextInt(Math.min(most, 10));
            length = random.nextInt(40) == 0 ? random.nextInt(22) : length;
            for (int k = 0; k < length; k++) {
                boolean isAny = type != 's' || random.nextInt(100) == 0;
                payload.add(isAny ? edgeByte() : 32 + random.nextInt(95));
            }
        }
        int check = 0;
        for (int b : payload) {
            check = (version == 1 ? check + b : version == 2 ? check ^ b : check * 31 + b) & 255;
        }
        List<Integer> bytes = new ArrayList<>(List.of(random.nextInt(40) == 0 ? random.nextInt(256) : type));
        bytes.add(random.nextInt(60) == 0 && groups > 0 ? random.nextInt(256) : Math.min(payload.size(), 255));
        bytes.addAll(payload);
        bytes.add(random.nextInt(40) == 0 ? random.nextInt(256) : check);
        return bytes;
    }

    private int edgeByte() {
        int[] edges = {0, 255, 127, 128, 31, 1};
        return random.nextBoolean() ? edges[random.nextInt(edges.length)] : random.nextInt(256);
    }

    // ---- texts

    private void tellText() throws Exception {
        if (random.nextInt(5) > 0) {
            ask("write", 1);
        }
        StringBuilder text = new StringBuilder(toldThings(0, 1));
        for (int damages = Math.max(0, random.nextInt(5) - 2); damages > 0 && text.length() > 0; damages--) {
            String signs = "numstrawe(); -,019aZ";
            char sign = signs.charAt(random.nextInt(signs.length()));
            int place = random.nextInt(text.length());
            int sort = random.nextInt(4);
            if (sort == 0) {
                text.insert(place, sign);
            } else if (sort == 1) {
                text.setCharAt(place, sign);
            } else if (sort == 2) {
                text.deleteCharAt(place);
            } else {
                text.setLength(place);
            }
        }
        for (int k = 0; k < text.length(); k++) {
            ask("feed", text.charAt(k));
        }
        ask("write", 1 + random.nextInt(3));
    }

    private String toldThings(int sets, int least) {
        int many = random.nextInt(12) == 0 ? 6 + random.nextInt(2) : least + random.nextInt(4);
        StringBuilder text = new StringBuilder();
        for (int k = 0; k < many; k++) {
            text.append(k == 0 ? "" : ";").append(toldThing(sets));
        }
        return text.toString();
    }

    private String toldThing(int sets) {
        int sort = random.nextInt(4);
        StringBuilder text = new StringBuilder();
        if (sort == 0) {
            text.append("num ").append(random.nextInt(3) == 0 ? "-" : "");
            int digits = random.nextInt(20) == 0 ? 10 : 1 + random.nextInt(random.nextBoolean() ? 9 : 3);
            for (int k = 0; k < digits; k++) {
                text.append(random.nextInt(10));
            }
        } else if (sort == 1) {
            text.append("str ");
            for (int k = random.nextInt(15) == 0 ? 19 + random.nextInt(3) : random.nextInt(5); k > 0; k--) {
                text.append((char) ('a' + random.nextInt(26)));
            }
        } else if (sort == 2) {
            text.append("raw ");
            int many = random.nextInt(15) == 0 ? 19 + random.nextInt(3) : random.nextInt(5);
            for (int k = 0; k < many; k++) {
                int v = random.nextInt(many > 6 ? 10 : 258);
                text.append(k == 0 ? "" : ",").append(random.nextInt(20) == 0 ? "0" : "").append(v);
            }
        } else {
            boolean isDeep = sets > 2 && random.nextInt(5) > 0;
            text.append("set(").append(isDeep ? "" : toldThings(sets + 1, 0)).append(")");
        }
        return text.toString();
    }
}
