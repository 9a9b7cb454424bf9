/** Promises 7 and 8: feed, write. */
public final class TextTest {
    private static final Due due = new Due("TextTest");

    public static void main(String[] args) {
        feed();
        written();
        numbersByFewestBytes();
        faultsOfWords();
        faultsOfNumbers();
        faultsOfRows();
        faultsOfSets();
        faultsBetween();
        refusals();
        longest();
        due.end();
    }

    private static void feed() {
        ChunkLayers x = new ChunkLayers();
        due.is("feed(-1)", x.feed(-1), ChunkLayers.BAD);
        due.is("feed(128)", x.feed(128), ChunkLayers.BAD);
        for (int k = 1; k <= 100; k++) {
            due.is("feed as " + k, x.feed(k % 2 == 0 ? 127 : 0), k);
        }
        due.is("feed as 101", x.feed(65), ChunkLayers.FULL);
        due.is("feed(128) as 101: BAD is named first", x.feed(128), ChunkLayers.BAD);
        due.is("count(4)", x.count(4), 100);
    }

    private static void written() {
        String text = "num 7;raw 9,8,255;str ab;set(num -2;set();str )";
        ChunkLayers x = new ChunkLayers();
        Due.tell(x, text);
        due.is("write(1)", x.write(1), 36);
        due.is("count(4): the text is empty then", x.count(4), 0);
        due.fileIs("write(1)", x, 67, 70, 1, 4, 110, 16, 1, 114, 18, 3, 115, 22, 2, 103, 25, 10,
            7, 7, 9, 8, 255, 16, 97, 98, 195,
            110, 1, 254, 254, 103, 0, 0, 115, 0, 0, sum(110, 1, 254, 254, 103, 115));
        Due.tell(x, text);
        due.is("write(2)", x.write(2), 36);
        due.is("at(2)", x.at(2), 2);
        due.is("xor of 9, 8, 255", x.at(21), 9 ^ 8 ^ 255);
        due.is("xor of a, b", x.at(24), 97 ^ 98);
        Due.tell(x, text);
        due.is("write(3)", x.write(3), 36);
        due.is("by 31 of 9, 8, 255", x.at(21), ((9 * 31 + 8) * 31 + 255) & 255);
        due.is("read()", x.read(), 4);
        due.shownIs("(-2;();\"\")", x, 3);
    }

    private static int sum(int... bytes) {
        int sum = 0;
        for (int b : bytes) {
            sum += b;
        }
        return sum & 255;
    }

    private static void numbersByFewestBytes() {
        int[] numbers = {0, 127, -128, 128, -129, 255, 32767, -32768, 32768, -32769, 8388607, -8388608,
            8388608, -8388609, 999999999, -999999999};
        int[] lengths = {1, 1, 1, 2, 2, 2, 2, 2, 3, 3, 3, 3, 4, 4, 4, 4};
        for (int k = 0; k < numbers.length; k++) {
            for (int version = 1; version <= 3; version++) {
                ChunkLayers x = new ChunkLayers();
                Due.tell(x, "num " + numbers[k]);
                due.is("write of " + numbers[k], x.write(version), 8 + lengths[k]);
                due.is("length of " + numbers[k], x.at(6), lengths[k]);
                due.is("thing(0, 1) of " + numbers[k], x.thing(0, 1), numbers[k]);
            }
        }
        faultless("num -0", "0");
        faultless("num 000000001", "1");
        faultless("num -000000200", "-200");
    }

    private static void faultless(String text, String shown) {
        ChunkLayers x = new ChunkLayers();
        Due.tell(x, text);
        due.holds("written: " + text, x.write(2) > 0);
        due.shownIs(shown, x, 0);
    }

    private static void faulty(String text, int place) {
        ChunkLayers x = Due.fileOf(1, 2, 3);
        Due.tell(x, text);
        due.is("write of " + text, x.write(1), -10 - place);
        due.is("count(4) after " + text, x.count(4), 0);
        due.fileIs("after " + text, x, 1, 2, 3);
    }

    private static void faultsOfWords() {
        faulty("", 0);
        faulty("n", 0);
        faulty("nu", 0);
        faulty("nun 5", 0);
        faulty("numm 5", 0);
        faulty("setnum(", 0);
        faulty("abcdefghijklmnopqrstuvwxyz", 0);
        faulty(" num 5", 0);
        faulty("5", 0);
        faulty("num 5;st", 6);
        faulty("num 5;strr a", 6);
        faulty("num 5;", 6);
        faulty("num", 3);
        faulty("str", 3);
        faulty("raw", 3);
        faulty("set", 3);
        faulty("num5", 3);
        faulty("str;", 3);
        faulty("set (", 3);
        faulty("raw\n", 3);
    }

    private static void faultsOfNumbers() {
        faulty("num ", 4);
        faulty("num  5", 4);
        faulty("num a", 4);
        faulty("num -", 5);
        faulty("num --5", 5);
        faulty("num +5", 4);
        faulty("num 1234567890", 13);
        faulty("num -1234567890", 14);
        faulty("num 5 ", 5);
        faulty("num 5-", 5);
        faulty("num 5,6", 5);
    }

    private static void faultsOfRows() {
        faulty("str  a", 4);
        faulty("str abC", 6);
        faulty("str ab ", 6);
        faulty("str abcdefghijklmnopqrstu", 24);
        faultless("str abcdefghijklmnopqrst", "\"abcdefghijklmnopqrst\"");
        faultless("str ", "\"\"");
        faulty("raw ,", 4);
        faulty("raw 1,", 6);
        faulty("raw 1,,2", 6);
        faulty("raw 1,;", 6);
        faulty("raw -1", 4);
        faulty("raw 256", 6);
        faulty("raw 300", 6);
        faulty("raw 2567", 6);
        faulty("raw 0255", 7);
        faulty("raw 1234", 7);
        faulty("raw 1,999", 8);
        faultless("str az", "\"az\"");
        faulty("str {", 4);
        faulty("str `", 4);
        faultless("raw ", "<>");
        faultless("raw 000,00,0,255", "<0,0,0,255>");
        faultless("raw 1,2,3,4,5,6,7,8,9,0,1,2,3,4,5,6,7,8,9,0",
            "<1,2,3,4,5,6,7,8,9,0,1,2,3,4,5,6,7,8,9,0>");
        faulty("raw 1,2,3,4,5,6,7,8,9,0,1,2,3,4,5,6,7,8,9,0,", 43);
        faulty("raw 1,2,3,4,5,6,7,8,9,0,1,2,3,4,5,6,7,8,9,0,1", 43);
    }

    private static void faultsOfSets() {
        faultless("set()", "()");
        faultless("set(set(set()))", "((()))");
        faultless("set(num 1;num 2;num 3;num 4;num 5;num 6)", "(1;2;3;4;5;6)");
        faulty("set(", 4);
        faulty("set( )", 4);
        faulty("set(;", 4);
        faulty("set(num 1", 9);
        faulty("set(num 1;", 10);
        faulty("set(num 1;)", 10);
        faulty("set(num 1,", 9);
        faulty("set())", 5);
        faulty("set(num 1;num 2;num 3;num 4;num 5;num 6;", 39);
        faulty("set(num 1;num 2;num 3;num 4;num 5;num 6", 39);
        faulty("set(set(set(set())))", 12);
        faulty("set(set(set(set", 12);
        faulty("set(set(set(num 1;set())))", 18);
        faultless("set(set(set(num 1));set(set()))", "(((1));(()))");
        faulty("set(set(set(num 1));set(set(set", 28);
    }

    private static void faultsBetween() {
        faultless("num 1;num 2;num 3;num 4;num 5;num 6", "1");
        faulty("num 1;num 2;num 3;num 4;num 5;num 6;", 35);
        faulty("num 1;num 2;num 3;num 4;num 5;num 6;num 7", 35);
        faulty("num 1;;num 2", 6);
        faulty("num 1)", 5);
        faulty("num 1num 2", 5);
        faulty("num 1; num 2", 6);
    }

    private static void refusals() {
        ChunkLayers x = Due.fileOf(1, 2);
        Due.tell(x, "num 5");
        due.is("write(0)", x.write(0), ChunkLayers.NONE);
        due.is("write(4)", x.write(4), ChunkLayers.NONE);
        due.is("count(4): the text stays", x.count(4), 5);
        due.fileIs("refused", x, 1, 2);
        due.is("write(3)", x.write(3), 9);
        due.fileIs("written", x, 67, 70, 3, 1, 110, 7, 1, 5, 5);
        Due.tell(x, "nim 5");
        due.is("write(0) of a wrong text", x.write(0), ChunkLayers.NONE);
        due.is("count(4): the text stays", x.count(4), 5);
    }

    /** No text of 100 signs comes to more than 120 bytes: these come to the most. */
    private static void longest() {
        StringBuilder text = new StringBuilder();
        for (int k = 0; k < 4; k++) {
            text.append("str abcdefghijklmnopqrst;");
        }
        text.setLength(99);
        ChunkLayers x = new ChunkLayers();
        Due.tell(x, text.toString());
        due.is("write of four long words", x.write(3), 100);
        due.is("read()", x.read(), 4);
    }
}
