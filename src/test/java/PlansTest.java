/** Promises 21 to 24, 26, 27 and 29: plan, ends, book, looked, image, undo, count. */
public final class PlansTest {
    private static final Due due = new Due("PlansTest");

    public static void main(String[] args) {
        plan();
        ends();
        book();
        looked();
        image();
        count();
        due.end();
    }

    private static void plan() {
        ChunkLayers x = new ChunkLayers();
        due.is("plan(3, 0)", x.plan(3, 0), ChunkLayers.NONE);
        due.is("plan(-2, 0)", x.plan(-2, 0), ChunkLayers.NONE);
        due.is("plan(3, 120): NONE is named first", x.plan(3, 120), ChunkLayers.NONE);
        due.is("plan(0, 120)", x.plan(0, 120), ChunkLayers.BAD);
        due.is("plan(0, -1)", x.plan(0, -1), ChunkLayers.BAD);
        for (int k = 1; k <= 10; k++) {
            due.is("plan as " + k, x.plan(k % 3, k == 1 ? 119 : 0), k);
        }
        due.is("plan as 11", x.plan(0, 0), ChunkLayers.FULL);
        due.is("plan(0, 120) as 11: BAD is named first", x.plan(0, 120), ChunkLayers.BAD);
        due.is("plan(3, 0) as 11: NONE is named first", x.plan(3, 0), ChunkLayers.NONE);
        due.is("count(2)", x.count(2), 10);
        due.is("plan(-1, 999)", x.plan(-1, 999), 0);
        due.is("count(2)", x.count(2), 0);
        due.is("plan(2, 0)", x.plan(2, 0), 1);
    }

    private static void ends() {
        ChunkLayers x = Due.fileOfText(1, "num 7;raw 9,8,7;str a");
        ends(x, "no plan", 0, 3);
        x.plan(0, 0);
        ends(x, "first byte turned", 1, 0);
        x.plan(0, 0);
        ends(x, "turned twice", 0, 3);
        x.plan(1, 13);
        ends(x, "number 0", 4, 2);
        x.plan(1, 14);
        ends(x, "its check 0, too", 0, 3);
        x.plan(2, 20);
        ends(x, "ends behind 20", 5, 2);
        x.plan(0, 20);
        x.plan(0, 119);
        x.plan(2, 119);
        ends(x, "places that are not there", 5, 2);
        x.plan(2, 5);
        ends(x, "ends behind 5", 3, 0);
        x.plan(2, 9);
        ends(x, "is not longer", 3, 0);
        due.is("ends(2)", x.ends(2), ChunkLayers.NONE);
        due.is("ends(-1)", x.ends(-1), ChunkLayers.NONE);
        due.is("read(): the file is as it was", x.read(), 3);
        x.plan(-1, 0);
        x.plan(2, 0);
        ends(x, "ends at once", 3, 0);
        ChunkLayers y = Due.fileOf(67, 70, 1, 1, 110, 7, 1, 255 - 5, 5);
        y.plan(0, 7);
        ends(y, "all bits", 0, 1);
        y.plan(-1, 0);
        y.set(8, 0);
        y.plan(1, 7);
        ends(y, "0", 0, 1);
        y.set(8, 5);
        // rows go one after the other
        y.plan(-1, 0);
        y.plan(1, 7);
        y.plan(0, 7);
        y.plan(0, 8);
        y.plan(1, 8);
        y.plan(0, 8);
        ends(y, "0, then turned", 0, 1);
    }

    private static void ends(ChunkLayers x, String what, int fault, int recovered) {
        due.is("ends(0), " + what, x.ends(0), fault);
        due.is("ends(1), " + what, x.ends(1), recovered);
    }

    private static void book() {
        ChunkLayers x = new ChunkLayers();
        due.is("book(120, 0)", x.book(120, 0), ChunkLayers.BAD);
        due.is("book(-2, 0)", x.book(-2, 0), ChunkLayers.BAD);
        due.is("book(0, 256)", x.book(0, 256), ChunkLayers.BAD);
        due.is("book(0, -1)", x.book(0, -1), ChunkLayers.BAD);
        for (int k = 1; k <= 8; k++) {
            due.is("book as " + k, x.book(k == 1 ? 119 : 0, k == 1 ? 255 : 0), k);
        }
        due.is("book as 9", x.book(0, 0), ChunkLayers.FULL);
        due.is("book(0, 256) as 9: BAD is named first", x.book(0, 256), ChunkLayers.BAD);
        due.is("count(3)", x.count(3), 8);
        due.is("book(-1, 999)", x.book(-1, 999), 0);
        due.is("count(3)", x.count(3), 0);
        due.is("book(1, 0)", x.book(1, 0), 1);
    }

    private static void looked() {
        ChunkLayers x = Due.fileOf(5, 6, 7);
        due.is("looked(), no book", x.looked(), -5);
        x.book(0, 5);
        x.book(2, 7);
        due.is("looked(), all so", x.looked(), -5);
        x.book(3, 0);
        due.is("looked(), no such place", x.looked(), 2);
        x.set(2, 8);
        due.is("looked(), now", x.looked(), 1);
        x.set(0, 0);
        due.is("looked(), the first", x.looked(), 0);
        x.set(0, 5);
        x.set(2, 7);
        x.put(0);
        due.is("looked(), there now", x.looked(), -5);
        x.cut(0);
        due.is("looked() at nothing", x.looked(), 0);
    }

    private static void image() {
        ChunkLayers x = Due.fileOf(5, 6, 7);
        due.is("undo(), none", x.undo(), ChunkLayers.STATE);
        x.see(1, 1);
        x.plan(0, 0);
        x.plan(1, 1);
        x.book(0, 5);
        x.feed(65);
        x.tape(0, 0, 3);
        due.is("image()", x.image(), 3);
        x.set(1, 0);
        x.put(9);
        x.see(-1, 0);
        x.see(1, 2);
        x.see(1, 3);
        x.plan(-1, 0);
        x.plan(2, 2);
        x.book(0, 7);
        x.book(0, 8);
        x.feed(66);
        x.item(0, 0, 4);
        due.is("undo()", x.undo(), 3);
        due.fileIs("undo", x, 5, 6, 7);
        counts(x, 3, 1, 2, 1, 2);
        due.is("looked() after undo", x.looked(), -5);
        due.is("peek(0, 0): tapes are not of the image", x.peek(0, 0), 4);
        // THE IMAGE stays, and does not change with what is there now
        x.cut(0);
        x.plan(-1, 0);
        x.plan(0, 9);
        due.is("undo() again", x.undo(), 3);
        due.fileIs("undo again", x, 5, 6, 7);
        counts(x, 3, 1, 2, 1, 2);
        x.cut(1);
        due.is("image() again", x.image(), 1);
        x.cut(0);
        due.is("undo() to the newer", x.undo(), 1);
        ChunkLayers empty = new ChunkLayers();
        due.is("image() of nothing", empty.image(), 0);
        empty.put(1);
        due.is("undo() to nothing", empty.undo(), 0);
        due.is("count(0)", empty.count(0), 0);
        seenAndPlanComeBack();
    }

    private static void seenAndPlanComeBack() {
        ChunkLayers x = Due.fileOfText(1, "num 5");
        x.see(2, 2);
        x.plan(1, 8);
        x.image();
        x.see(-1, 0);
        x.see(2, 3);
        x.plan(-1, 0);
        x.plan(0, 0);
        due.is("fits(3)", x.fits(3), 1);
        due.is("ends(0)", x.ends(0), 1);
        x.undo();
        due.is("fits(3) after undo", x.fits(3), 0);
        due.is("fits(2) after undo", x.fits(2), 1);
        due.is("ends(0) after undo", x.ends(0), 4);
    }

    private static void counts(ChunkLayers x, int... want) {
        for (int what = 0; what < want.length; what++) {
            due.is("count(" + what + ")", x.count(what), want[what]);
        }
    }

    private static void count() {
        ChunkLayers x = Due.fileOf(1, 2, 3, 4, 5);
        x.see(0, 0);
        x.plan(0, 0);
        x.plan(0, 0);
        for (int k = 0; k < 3; k++) {
            x.book(0, 0);
        }
        Due.tell(x, "abcd");
        counts(x, 5, 1, 2, 3, 4);
        due.is("count(5)", x.count(5), ChunkLayers.BAD);
        due.is("count(-1)", x.count(-1), ChunkLayers.BAD);
    }
}
