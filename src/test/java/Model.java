import java.util.ArrayList;
import java.util.Arrays;
import java.util.HashSet;
import java.util.List;
import java.util.Set;

/**
 * The document said a second time, slowly and with the whole Java library, for ModelTest to compare with.
 * It shares no line and no way of working with ChunkLayers: faults are exceptions, things are a tree.
 */
final class Model {
    private static final class Fault extends Exception {
        private static final long serialVersionUID = 1;
        final int what;
        final int layer;
        final int place;
        final Fault below;

        Fault(int what, int layer, int place, Fault below) {
            super(null, null, false, false);
            this.what = what;
            this.layer = layer;
            this.place = place;
            this.below = below;
        }

        int deepest() {
            return below == null ? what : below.deepest();
        }
    }

    private static final class WrongText extends Exception {
        private static final long serialVersionUID = 1;
        final int place;

        WrongText(int place) {
            super(null, null, false, false);
            this.place = place;
        }
    }

    private static final class Thing {
        final int type;
        long number;
        final List<Integer> bytes = new ArrayList<>();
        final List<Thing> things = new ArrayList<>();

        Thing(int type) {
            this.type = type;
        }

        int all() {
            return 1 + things.stream().mapToInt(Thing::all).sum();
        }

        int depth() {
            return type != 103 ? 0 : 1 + things.stream().mapToInt(Thing::depth).max().orElse(0);
        }

        String shown() {
            if (type == 110) {
                return Long.toString(number);
            }
            List<String> parts = new ArrayList<>();
            if (type == 103) {
                things.forEach(t -> parts.add(t.shown()));
                return "(" + String.join(";", parts) + ")";
            }
            if (type == 114) {
                bytes.forEach(b -> parts.add(b.toString()));
                return "<" + String.join(",", parts) + ">";
            }
            StringBuilder words = new StringBuilder("\"");
            bytes.forEach(b -> words.append((char) b.intValue()));
            return words.append('"').toString();
        }

        List<Long> numbers() {
            List<Long> all = new ArrayList<>();
            if (type == 110) {
                all.add(number);
            }
            things.forEach(t -> all.addAll(t.numbers()));
            return all;
        }
    }

    private List<Integer> file = new ArrayList<>();
    private List<int[]> seen = new ArrayList<>();
    private List<int[]> plan = new ArrayList<>();
    private List<int[]> book = new ArrayList<>();
    private List<List<?>> image = null;
    private String text = "";
    private final Object[] tapes = new Object[6];

    // ---- reading

    private static int checkOf(int version, List<Integer> bytes) {
        long check = 0;
        for (int b : bytes) {
            check = version == 1 ? check + b : version == 2 ? check ^ b : (check * 31 + b) % 256;
        }
        return (int) (check % 256);
    }

    private static int wanted(List<Integer> file, int place) throws Fault {
        if (place >= file.size()) {
            throw new Fault(3, 0, file.size(), null);
        }
        return file.get(place);
    }

    /** The rows of TYPE, OFFSET, LENGTH; a Fault of LAYER 0. */
    private static List<int[]> entriesOf(List<Integer> file) throws Fault {
        if (wanted(file, 0) != 67) {
            throw new Fault(1, 0, 0, null);
        }
        if (wanted(file, 1) != 70) {
            throw new Fault(1, 0, 1, null);
        }
        if (!List.of(1, 2, 3).contains(wanted(file, 2))) {
            throw new Fault(2, 0, 2, null);
        }
        if (wanted(file, 3) > 6) {
            throw new Fault(5, 0, 3, null);
        }
        List<int[]> entries = new ArrayList<>();
        for (int e = 0; e < file.get(3); e++) {
            entries.add(new int[] {wanted(file, 4 + 3 * e), wanted(file, 5 + 3 * e), wanted(file, 6 + 3 * e)});
        }
        return entries;
    }

    /** The places that an ENTRY takes if nothing is against it; null if something is. */
    private static Set<Integer> placesOf(List<Integer> file, List<int[]> entries, int e, Set<Integer> taken) {
        Set<Integer> places = new HashSet<>();
        for (int place = entries.get(e)[1]; place <= entries.get(e)[1] + entries.get(e)[2]; place++) {
            if (place < 4 + 3 * entries.size() || place >= file.size() || taken.contains(place)) {
                return null;
            }
            places.add(place);
        }
        return places;
    }

    private static List<Thing> whole(List<Integer> file) throws Fault {
        List<int[]> entries = entriesOf(file);
        Set<Integer> taken = new HashSet<>();
        for (int e = 0; e < entries.size(); e++) {
            Set<Integer> places = placesOf(file, entries, e, taken);
            if (places == null) {
                throw new Fault(9, 0, 0, new Fault(5, 1, 5 + 3 * e, null));
            }
            taken.addAll(places);
        }
        List<Thing> things = new ArrayList<>();
        for (int e = 0; e < entries.size(); e++) {
            try {
                things.add(entryChunk(file, entries, e));
            } catch (Fault fault) {
                throw new Fault(9, 0, 0, new Fault(9, 1, 4 + 3 * e, fault));
            }
        }
        return things;
    }

    private static Thing entryChunk(List<Integer> file, List<int[]> entries, int e) throws Fault {
        int[] row = entries.get(e);
        return chunk(file, row[0], 4 + 3 * e, 6 + 3 * e, row[1], row[2], 2);
    }

    private static Thing chunk(List<Integer> file, int type, int typeAt, int lengthAt, int from, int length, int layer)
        throws Fault {
        List<Integer> payload = file.subList(from, from + length);
        if (checkOf(file.get(2), payload) != file.get(from + length)) {
            throw new Fault(4, layer, from + length, null);
        }
        Thing thing = new Thing(type);
        if (type == 110) {
            if (length < 1 || length > 4) {
                throw new Fault(7, layer, lengthAt, null);
            }
            byte[] bytes = new byte[length];
            for (int k = 0; k < length; k++) {
                bytes[k] = (byte) (int) payload.get(k);
            }
            thing.number = new java.math.BigInteger(bytes).longValueExact();
        } else if (type == 115 || type == 114) {
            if (length > 20) {
                throw new Fault(7, layer, lengthAt, null);
            }
            for (int k = 0; k < length; k++) {
                if (type == 115 && (payload.get(k) < 32 || payload.get(k) > 126)) {
                    throw new Fault(7, layer, from + k, null);
                }
            }
            thing.bytes.addAll(payload);
        } else if (type == 103) {
            if (layer == 5) {
                throw new Fault(8, layer, typeAt, null);
            }
            try {
                thing.things.addAll(chunksOf(file, from, from + length, layer + 1));
            } catch (Fault fault) {
                throw new Fault(9, layer, from, fault);
            }
        } else {
            throw new Fault(6, layer, typeAt, null);
        }
        return thing;
    }

    private static List<Thing> chunksOf(List<Integer> file, int from, int end, int layer) throws Fault {
        List<Thing> things = new ArrayList<>();
        int at = from;
        while (at != end) {
            if (things.size() == 6) {
                throw new Fault(7, layer, at, null);
            }
            int afterHead = at + 2;
            if (afterHead > end || afterHead + file.get(at + 1) >= end) {
                throw new Fault(3, layer, end, null);
            }
            things.add(chunk(file, file.get(at), at, at + 1, afterHead, file.get(at + 1), layer));
            at = afterHead + file.get(at + 1) + 1;
        }
        return things;
    }

    private static Fault faultOf(List<Integer> file) {
        try {
            whole(file);
            return null;
        } catch (Fault fault) {
            return fault;
        }
    }

    private static int recoveredOf(List<Integer> file) {
        List<int[]> entries;
        try {
            entries = entriesOf(file);
        } catch (Fault fault) {
            return 0;
        }
        int bits = 0;
        Set<Integer> taken = new HashSet<>();
        for (int e = 0; e < entries.size(); e++) {
            Set<Integer> places = placesOf(file, entries, e, taken);
            if (places != null) {
                taken.addAll(places);
                try {
                    entryChunk(file, entries, e);
                    bits += 1 << e;
                } catch (Fault fault) {
                    continue;
                }
            }
        }
        return bits;
    }

    // ---- texts

    private static List<Thing> told(String text) throws WrongText {
        int[] at = {0};
        List<Thing> things = new ArrayList<>();
        while (true) {
            things.add(toldThing(text, at, 0));
            if (at[0] == text.length()) {
                return things;
            }
            if (signAt(text, at[0]) != ';' || things.size() == 6) {
                throw new WrongText(at[0]);
            }
            at[0]++;
        }
    }

    private static char signAt(String text, int at) {
        return at < text.length() ? text.charAt(at) : '\uffff';
    }

    private static void wants(String text, int[] at, char sign) throws WrongText {
        if (signAt(text, at[0]) != sign) {
            throw new WrongText(at[0]);
        }
        at[0]++;
    }

    private static String run(String text, int at, String pattern) {
        java.util.regex.Matcher m = java.util.regex.Pattern.compile(pattern).matcher(text);
        m.region(at, text.length());
        return m.lookingAt() ? m.group() : "";
    }

    private static Thing toldThing(String text, int[] at, int within) throws WrongText {
        String word = run(text, at[0], "[a-z]*");
        List<String> known = within == 3 ? List.of("num", "str", "raw") : List.of("num", "str", "raw", "set");
        if (!known.contains(word)) {
            throw new WrongText(at[0]);
        }
        at[0] += 3;
        wants(text, at, word.equals("set") ? '(' : ' ');
        if (word.equals("num")) {
            Thing thing = new Thing(110);
            String sign = run(text, at[0], "-?");
            at[0] += sign.length();
            String digits = run(text, at[0], "[0-9]{1,9}");
            if (digits.isEmpty()) {
                throw new WrongText(at[0]);
            }
            at[0] += digits.length();
            thing.number = Long.parseLong(sign + digits);
            return thing;
        }
        if (word.equals("str")) {
            Thing thing = new Thing(115);
            for (char c : run(text, at[0], "[a-z]{0,20}").toCharArray()) {
                thing.bytes.add((int) c);
                at[0]++;
            }
            return thing;
        }
        return word.equals("raw") ? toldRaw(text, at) : toldSet(text, at, within);
    }

    private static Thing toldRaw(String text, int[] at) throws WrongText {
        Thing thing = new Thing(114);
        if (run(text, at[0], "[0-9]").isEmpty()) {
            return thing;
        }
        while (true) {
            String digits = run(text, at[0], "[0-9]{1,3}");
            if (digits.isEmpty()) {
                throw new WrongText(at[0]);
            }
            if (Integer.parseInt(digits) > 255) {
                throw new WrongText(at[0] + 2);
            }
            thing.bytes.add(Integer.parseInt(digits));
            at[0] += digits.length();
            if (signAt(text, at[0]) != ',' || thing.bytes.size() == 20) {
                return thing;
            }
            at[0]++;
        }
    }

    private static Thing toldSet(String text, int[] at, int within) throws WrongText {
        Thing thing = new Thing(103);
        while (signAt(text, at[0]) != ')') {
            if (!thing.things.isEmpty()) {
                if (signAt(text, at[0]) != ';' || thing.things.size() == 6) {
                    throw new WrongText(at[0]);
                }
                at[0]++;
            }
            thing.things.add(toldThing(text, at, within + 1));
        }
        at[0]++;
        return thing;
    }

    private static List<Integer> payloadOf(Thing thing, int version) {
        List<Integer> payload = new ArrayList<>(thing.bytes);
        if (thing.type == 110) {
            for (byte b : java.math.BigInteger.valueOf(thing.number).toByteArray()) {
                payload.add(b & 255);
            }
        }
        for (Thing inner : thing.things) {
            List<Integer> of = payloadOf(inner, version);
            payload.add(inner.type);
            payload.add(of.size());
            payload.addAll(of);
            payload.add(checkOf(version, of));
        }
        return payload;
    }

    private static List<Integer> written(List<Thing> things, int version) {
        List<Integer> head = new ArrayList<>(List.of(67, 70, version, things.size()));
        List<Integer> rest = new ArrayList<>();
        for (Thing thing : things) {
            List<Integer> payload = payloadOf(thing, version);
            head.addAll(List.of(thing.type, 4 + 3 * things.size() + rest.size(), payload.size()));
            rest.addAll(payload);
            rest.add(checkOf(version, payload));
        }
        head.addAll(rest);
        return head;
    }

    // ---- the calls

    int put(int v) {
        if (v < 0 || v > 255) {
            return -2;
        }
        if (file.size() == 120) {
            return -4;
        }
        file.add(v);
        return file.size();
    }

    int set(int place, int v) {
        if (place < 0 || place >= file.size()) {
            return -1;
        }
        return v < 0 || v > 255 ? -2 : file.set(place, v);
    }

    int cut(int n) {
        int had = file.size();
        if (n < 0 || n > had) {
            return -2;
        }
        file = new ArrayList<>(file.subList(0, n));
        return had;
    }

    int at(int place) {
        return place < 0 || place >= file.size() ? -1 : file.get(place);
    }

    int check(int version, int place, int n) {
        if (version < 1 || version > 3) {
            return -1;
        }
        if (place < 0 || n < 0 || (long) place + n > file.size()) {
            return -2;
        }
        return checkOf(version, file.subList(place, place + n));
    }

    int feed(int sign) {
        if (sign < 0 || sign > 127) {
            return -2;
        }
        if (text.length() == 100) {
            return -4;
        }
        text += (char) sign;
        return text.length();
    }

    int write(int version) {
        if (version < 1 || version > 3) {
            return -1;
        }
        String was = text;
        text = "";
        try {
            file = written(told(was), version);
            return file.size();
        } catch (WrongText wrong) {
            return -10 - wrong.place;
        }
    }

    int read() {
        try {
            return whole(file).size();
        } catch (Fault fault) {
            return -100 - fault.deepest();
        }
    }

    int fault(int k, int what) {
        if (k < 0 || what < 0 || what > 2) {
            return -1;
        }
        Fault fault = faultOf(file);
        for (int up = 0; up < k && fault != null; up++) {
            fault = fault.below;
        }
        return fault == null ? -5 : what == 0 ? fault.what : what == 1 ? fault.layer : fault.place;
    }

    int recovered() {
        return recoveredOf(file);
    }

    private Thing thingAt(int k) {
        try {
            List<Thing> things = whole(file);
            return k < 0 || k >= things.size() ? null : things.get(k);
        } catch (Fault fault) {
            return null;
        }
    }

    long thing(int k, int what) {
        Thing thing = thingAt(k);
        if (thing == null || what < 0 || what > 3) {
            return Long.MIN_VALUE;
        }
        if (what == 1) {
            return thing.type == 110 ? thing.number : thing.bytes.size() + thing.things.size();
        }
        return what == 0 ? thing.type : what == 2 ? thing.all() : thing.depth();
    }

    int shown(int k, int i) {
        Thing thing = thingAt(k);
        return thing == null || i < 0 || i >= thing.shown().length() ? -1 : thing.shown().charAt(i);
    }

    int mends(int place, int what) {
        if (place < 0 || place >= file.size() || what < 0 || what > 1) {
            return -1;
        }
        List<Integer> mending = new ArrayList<>();
        for (int v = 0; v < 256; v++) {
            List<Integer> other = new ArrayList<>(file);
            other.set(place, v);
            if (faultOf(other) == null) {
                mending.add(v);
            }
        }
        return what == 0 ? mending.size() : mending.isEmpty() ? -5 : mending.get(0);
    }

    int flips() {
        int faulty = 0;
        for (int bit = 0; bit < 8 * file.size(); bit++) {
            List<Integer> other = new ArrayList<>(file);
            other.set(bit / 8, other.get(bit / 8) ^ 1 << bit % 8);
            faulty += faultOf(other) == null ? 0 : 1;
        }
        return faulty;
    }

    private List<Integer> as(int version) {
        try {
            return written(whole(file), version);
        } catch (Fault fault) {
            return null;
        }
    }

    int as(int version, int what) {
        if (version < 1 || version > 3 || what < 0 || what > 1) {
            return -1;
        }
        List<Integer> other = as(version);
        if (other == null) {
            return -5;
        }
        if (what == 0) {
            return other.size();
        }
        try {
            return written(whole(other), 1).equals(written(whole(file), 1)) ? 1 : 0;
        } catch (Fault fault) {
            return 0;
        }
    }

    private static int comes(List<int[]> rows, int most, int place, int v) {
        if (place == -1) {
            rows.clear();
            return 0;
        }
        if (place < 0 || place > 119 || v < 0 || v > 255) {
            return -2;
        }
        if (rows.size() == most) {
            return -4;
        }
        rows.add(new int[] {place, v});
        return rows.size();
    }

    private static boolean isSo(List<Integer> bytes, int[] row) {
        return row[0] < bytes.size() && bytes.get(row[0]) == row[1];
    }

    int see(int place, int v) {
        return comes(seen, 5, place, v);
    }

    int fits(int version) {
        if (version < 1 || version > 3) {
            return -1;
        }
        List<Integer> other = as(version);
        return other == null ? -5 : seen.stream().allMatch(row -> isSo(other, row)) ? 1 : 0;
    }

    private static long fraction(long above, long below, int part) {
        if (part < 0 || part > 1) {
            return Long.MIN_VALUE;
        }
        java.math.BigInteger a = java.math.BigInteger.valueOf(above);
        java.math.BigInteger b = java.math.BigInteger.valueOf(below);
        return (part == 0 ? a : b).divide(a.gcd(b)).longValueExact();
    }

    long odds(int part) {
        return file.isEmpty() ? Long.MIN_VALUE : fraction(flips(), 8 * file.size(), part);
    }

    long mean(int part) {
        try {
            List<Long> numbers = new ArrayList<>();
            whole(file).forEach(t -> numbers.addAll(t.numbers()));
            return numbers.isEmpty() ? Long.MIN_VALUE
                : fraction(numbers.stream().mapToLong(n -> n).sum(), numbers.size(), part);
        } catch (Fault fault) {
            return Long.MIN_VALUE;
        }
    }

    int plan(int what, int n) {
        if (what == -1) {
            plan.clear();
            return 0;
        }
        if (what < 0 || what > 2) {
            return -1;
        }
        if (n < 0 || n > 119) {
            return -2;
        }
        if (plan.size() == 10) {
            return -4;
        }
        plan.add(new int[] {what, n});
        return plan.size();
    }

    int ends(int what) {
        if (what < 0 || what > 1) {
            return -1;
        }
        List<Integer> other = new ArrayList<>(file);
        for (int[] row : plan) {
            if (row[0] == 2) {
                while (other.size() > row[1]) {
                    other.remove(other.size() - 1);
                }
            } else if (row[1] < other.size()) {
                other.set(row[1], row[0] == 0 ? ~other.get(row[1]) & 255 : 0);
            }
        }
        if (what == 1) {
            return Integer.bitCount(recoveredOf(other));
        }
        Fault fault = faultOf(other);
        return fault == null ? 0 : fault.deepest();
    }

    int book(int place, int v) {
        return comes(book, 8, place, v);
    }

    int looked() {
        for (int k = 0; k < book.size(); k++) {
            if (!isSo(file, book.get(k))) {
                return k;
            }
        }
        return -5;
    }

    int judge(int tape, int i) {
        if (tape < 0 || tape > 5) {
            return -1;
        }
        Object row = tapes[tape];
        if (row != null && !(row instanceof byte[])) {
            return -12;
        }
        if (file.isEmpty()) {
            return -5;
        }
        if (row == null || i < 0 || i >= ((byte[]) row).length) {
            return 1000;
        }
        byte[] bytes = (byte[]) row;
        for (int k = 0; k < file.size(); k++) {
            if (i + k >= bytes.length) {
                return 1000 + k;
            }
            if ((bytes[i + k] & 255) != file.get(k)) {
                return k;
            }
        }
        return -5;
    }

    int image() {
        image = List.of(new ArrayList<>(file), new ArrayList<>(seen), new ArrayList<>(plan), new ArrayList<>(book));
        return file.size();
    }

    @SuppressWarnings("unchecked")
    int undo() {
        if (image == null) {
            return -3;
        }
        file = new ArrayList<>((List<Integer>) image.get(0));
        seen = new ArrayList<>((List<int[]>) image.get(1));
        plan = new ArrayList<>((List<int[]>) image.get(2));
        book = new ArrayList<>((List<int[]>) image.get(3));
        return file.size();
    }

    int taken(int k, int sort) {
        if (sort < 0 || sort > 3) {
            return -2;
        }
        Thing thing = thingAt(k);
        return thing == null ? -11 : thing.type == "nsrg".charAt(sort) ? thing.type : -12;
    }

    int count(int what) {
        int[] counts = {file.size(), seen.size(), plan.size(), book.size(), text.length()};
        return what < 0 || what > 4 ? -2 : counts[what];
    }

    int tape(int tape, int sort, int n) {
        if (tape < 0 || tape > 5) {
            return -1;
        }
        if (sort == -1) {
            tapes[tape] = null;
            return 1;
        }
        if (sort < 0 || sort > 4 || n > 60) {
            return -2;
        }
        if (n < 0) {
            return -14;
        }
        Class<?>[] sorts = {byte.class, short.class, int.class, long.class, boolean.class};
        tapes[tape] = java.lang.reflect.Array.newInstance(sorts[sort], n);
        return 1;
    }

    int item(int tape, int i, long v) {
        if (tape < 0 || tape > 5) {
            return -1;
        }
        Object row = tapes[tape];
        if (row == null) {
            return -11;
        }
        if (i < 0 || i >= java.lang.reflect.Array.getLength(row)) {
            return -13;
        }
        if (row instanceof byte[] bytes) {
            bytes[i] = (byte) v;
        } else if (row instanceof short[] shorts) {
            shorts[i] = (short) v;
        } else if (row instanceof int[] ints) {
            ints[i] = (int) v;
        } else if (row instanceof long[] longs) {
            longs[i] = v;
        } else {
            ((boolean[]) row)[i] = v != 0;
        }
        return 1;
    }

    long peek(int tape, int i) {
        Object row = tape < 0 || tape > 5 ? null : tapes[tape];
        if (row == null || i < 0 || i >= java.lang.reflect.Array.getLength(row)) {
            return Long.MIN_VALUE;
        }
        return row instanceof boolean[] booleans ? booleans[i] ? 1 : 0 : java.lang.reflect.Array.getLong(row, i);
    }

    @SuppressWarnings("SuspiciousSystemArraycopy")
    int shift(int tape, int i, int other, int j, int n) {
        if (tape < 0 || tape > 5 || other < 0 || other > 5) {
            return -1;
        }
        if (tapes[tape] == null || tapes[other] == null) {
            return -11;
        }
        if (tapes[tape].getClass() != tapes[other].getClass()) {
            return -12;
        }
        try {
            System.arraycopy(tapes[tape], i, tapes[other], j, n);
            return n;
        } catch (ArrayIndexOutOfBoundsException beyond) {
            return -13;
        }
    }

    @Override
    public String toString() {
        return "file " + file + ", text '" + text + "', plan " + Arrays.deepToString(plan.toArray());
    }
}
