/** Counts the answers that are not due, and helps to tell an object its bytes, its text, its things. */
final class Due {
    private final String name;
    private int asked = 0;
    private int wrong = 0;

    Due(String name) {
        this.name = name;
    }

    void is(String call, long got, long want) {
        asked++;
        if (got != want) {
            wrong++;
            System.out.println(name + ": " + call + " answered " + got + ", due is " + want);
        }
    }

    void holds(String what, boolean so) {
        asked++;
        if (!so) {
            wrong++;
            System.out.println(name + ": " + what + " does not hold");
        }
    }

    /** Ends the run with exit code 1 if an answer was not due, or if nothing was asked. */
    void end() {
        System.out.println(name + ": " + asked + " answers, " + wrong + " not as due");
        if (wrong != 0 || asked == 0) {
            System.exit(1);
        }
    }

    static ChunkLayers fileOf(int... bytes) {
        ChunkLayers x = new ChunkLayers();
        for (int b : bytes) {
            x.put(b);
        }
        return x;
    }

    static void tell(ChunkLayers x, String text) {
        for (int k = 0; k < text.length(); k++) {
            x.feed(text.charAt(k));
        }
    }

    static ChunkLayers fileOfText(int version, String text) {
        ChunkLayers x = new ChunkLayers();
        tell(x, text);
        x.write(version);
        return x;
    }

    /** A file of VERSION 1 with one ENTRY at place 7, whose CHECK is right. */
    static ChunkLayers fileOfChunk(int type, int... payload) {
        return fileOf(Made.file(1, type, payload));
    }

    void fileIs(String what, ChunkLayers x, int... bytes) {
        is(what + ": count(0)", x.count(0), bytes.length);
        for (int place = 0; place < bytes.length; place++) {
            is(what + ": at(" + place + ")", x.at(place), bytes[place]);
        }
    }

    /** THE FAULT from LAYER 0 on: what, LAYER, place, and so on; nothing else behind it. */
    void faultsAre(String what, ChunkLayers x, int... told) {
        for (int k = 0; k < told.length; k++) {
            is(what + ": fault(" + k / 3 + ", " + k % 3 + ")", x.fault(k / 3, k % 3), told[k]);
        }
        for (int part = 0; part < 3; part++) {
            is(what + ": fault(" + told.length / 3 + ", " + part + ")", x.fault(told.length / 3, part), -5);
        }
        int deepest = told.length == 0 ? 0 : told[told.length - 3];
        if (deepest != 0) {
            is(what + ": read()", x.read(), -100 - deepest);
        }
        is(what + ": ends(0)", x.ends(0), deepest);
    }

    void shownIs(String want, ChunkLayers x, int k) {
        for (int i = 0; i < want.length(); i++) {
            is("shown(" + k + ", " + i + ") of " + want, x.shown(k, i), want.charAt(i));
        }
        is("shown(" + k + ", behind) of " + want, x.shown(k, want.length()), ChunkLayers.NONE);
        is("shown(" + k + ", -1) of " + want, x.shown(k, -1), ChunkLayers.NONE);
    }

    void fractionIs(String what, long above, long below, long wantAbove, long wantBelow) {
        is(what + " above", above, wantAbove);
        is(what + " below", below, wantBelow);
    }
}
