import java.io.IOException;
import java.nio.file.Files;
import java.nio.file.Path;
import java.util.BitSet;
import java.util.LinkedHashMap;
import java.util.Map;
import java.util.regex.Matcher;
import java.util.regex.Pattern;

/** The document, sentence by sentence: which of them a run of calls has held the class against. */
final class Held {
    private static final Path DOCUMENT = Path.of("../shared/DOC.md");
    private static final int SHOWN_AT_MOST = 40;

    private final Map<String, String> parts = new LinkedHashMap<>();
    private final Map<String, BitSet> held = new LinkedHashMap<>();
    private Run last = null;
    private int runs = 0;
    private int asked = 0;
    private int wrong = 0;

    Held() throws IOException {
        String document = Files.readString(DOCUMENT).replace("```text", " ").replace("```", " ")
            .replaceAll("\\s+", " ");
        add(document, "Terms 1", "==== 1 (.*?)==== 2 ");
        add(document, "Terms 2", "==== 2 (.*?)==== 3 ");
        add(document, "Terms 3", "==== 3 (.*?) Ahead of the calls ");
        for (int promise = 1; promise <= 33; promise++) {
            add(document, "Promise " + promise, "## Promise " + promise + ": [^`]*`[^`]*`: (.*?) ##");
        }
    }

    private void add(String document, String part, String pattern) {
        Matcher found = Pattern.compile(pattern).matcher(document);
        if (!found.find()) {
            throw new IllegalStateException("the document has no " + part);
        }
        parts.put(part, found.group(1));
        held.put(part, new BitSet());
    }

    /** A run on a new object; what it asks is what this sentence of that part of the document says. */
    Run run(String part, String sentence) {
        endLast();
        String text = parts.get(part);
        int from = text == null ? -1 : text.indexOf(sentence);
        if (from < 0) {
            throw new IllegalArgumentException("the document does not say so: " + part + ": " + sentence);
        }
        held.get(part).set(from, from + sentence.length());
        runs++;
        last = new Run(this, part + ", \"" + sentence + "\"");
        return last;
    }

    private void endLast() {
        if (last != null) {
            last.end();
        }
        last = null;
    }

    void answered(String call, String got, long want) {
        asked++;
        if (!got.equals(Long.toString(want))) {
            tell(call + " answered " + got + ", due is " + want);
        }
    }

    void same(String call, String got, String want) {
        asked++;
        if (!got.equals(want)) {
            tell(call + " answered " + got + ", without those " + want);
        }
    }

    private void tell(String what) {
        wrong++;
        if (wrong <= SHOWN_AT_MOST) {
            System.out.println("EdgesTest: " + what);
        }
    }

    /** Ends with exit code 1 if an answer was not due, or if no run holds the class against some sentence. */
    void end() {
        endLast();
        for (Map.Entry<String, String> part : parts.entrySet()) {
            String text = part.getValue();
            BitSet told = held.get(part.getKey());
            for (int from = told.nextClearBit(0); from < text.length(); from = told.nextClearBit(from)) {
                int next = told.nextSetBit(from);
                int to = next < 0 ? text.length() : next;
                if (text.substring(from, to).matches(".*[A-Za-z0-9].*")) {
                    tell("no run for " + part.getKey() + ", \"" + text.substring(from, to).strip() + "\"");
                }
                from = to;
            }
        }
        System.out.println("EdgesTest: " + runs + " runs, " + asked + " answers, " + wrong + " not as due");
        if (wrong != 0 || asked == 0) {
            System.exit(1);
        }
    }
}
