/** Promises 7 and 8, and what the Terms say of THE TEXT, its FAULT and what is WRITTEN, at their boundaries. */
final class TextEdges {
    private static final String TERMS = "Terms 1";
    private static final String WRITE = "Promise 8";
    private static final String WRONG = "else the place of the first byte with which none begins so (the end of"
        + " THE TEXT, if it ends too early);";
    private static final String TWENTY = "abcdefghijklmnopqrst";

    private TextEdges() {
    }

    static void all(Held held) {
        feed(held);
        textsLength(held);
        howManyThings(held);
        numbers(held);
        letters(held);
        rawNumbers(held);
        sets(held);
        blanks(held);
        deepSets(held);
        words(held);
        wrongBytes(held);
        above255(held);
        written(held);
        fewestBytes(held);
        write(held);
        writeRefused(held);
        longest(held);
    }

    private static void feed(Held held) {
        Run run = held.run("Promise 7", "A sign (0 .. 127) comes behind THE TEXT's: how many it has.");
        run.due(0, "count", 4);
        run.due(1, "feed", 0);
        run.due(2, "feed", 127);
        run.due(3, "feed", 0);
        run.due(3, "count", 4);
        run.due(-10, "write", 1);
        run.due(1, "feed", 'n');
        run.due(2, "feed", 'u');
        run.due(3, "feed", 'm');
        run.due(4, "feed", ' ');
        run.due(5, "feed", '7');
        run.due(6, "feed", 127);
        run.due(-15, "write", 1);
        run = held.run("Promise 7", "BAD;");
        for (long sign : new long[] {Run.LEAST, -1, 128, 255, 256, Run.MOST}) {
            run.refused(Run.BAD, "feed", sign);
        }
        run.text("num 7");
        for (long sign : new long[] {Run.LEAST, -1, 128, 255, 256, Run.MOST}) {
            run.refused(Run.BAD, "feed", sign);
        }
        run.due(9, "write", 1);
        run.due(7, "thing", 0, 1);
        run = held.run("Promise 7", "FULL.");
        run.text("str ;".repeat(20));
        run.due(100, "count", 4);
        run.refused(Run.FULL, "feed", 0);
        run.refused(Run.FULL, "feed", 127);
        run.refused(Run.BAD, "feed", 128);
        run.refused(Run.BAD, "feed", -1);
        run.refused(Run.FULL, "feed", 'a');
        run.due(100, "count", 4);
        run.due(-10 - 29, "write", 1);
        run.due(1, "feed", 'a');
    }

    private static void textsLength(Held held) {
        Run run = held.run(TERMS, "THINGS are told by THE TEXT (bytes, 100 at most):");
        run.text("str " + TWENTY + ";str " + TWENTY + ";str " + TWENTY + ";num -123456789;num 123456");
        run.due(100, "count", 4);
        run.refused(Run.FULL, "feed", '7');
        run.due(4 + 3 * 24 + 8 + 7, "write", 2);
        run.due(0, "count", 4);
        run.whole(5);
        run.shown(4, "123456");
        run.due(1, "feed", 'n');
    }

    /** THE TEXT has no FAULT; its first THING is shown so. */
    private static void tells(Run run, String text, int things, String shown) {
        run.text(text);
        run.due(Made.lengthOf(text), "write", 3);
        run.due(things, "read");
        run.shown(0, shown);
    }

    private static void faulty(Run run, String text, int place) {
        run.text(text);
        run.due(-10 - place, "write", 1);
        run.due(0, "count", 4);
        run.due(0, "count", 0);
    }

    private static void howManyThings(Held held) {
        String sentence = "THINGS, 1 to 6, with ; between:";
        Run run = held.run(TERMS, sentence);
        faulty(run, "", 0);
        faulty(run, ";", 0);
        faulty(run, "num 1;num 2;num 3;num 4;num 5;num 6;num 7", 35);
        faulty(run, "num 1;num 2;num 3;num 4;num 5;num 6;", 35);
        faulty(run, "num 1;num 2;num 3;num 4;num 5;", 30);
        faulty(run, "num 1;", 6);
        faulty(run, "num 1;;num 2", 6);
        faulty(run, "num 1,num 2", 5);
        faulty(run, "num 1num 2", 5);
        run = held.run(TERMS, sentence);
        tells(run, "num 1", 1, "1");
        tells(run, "num 1;num 2", 2, "1");
        tells(run, "num 3;num 1;num 2;num 4;num 5", 5, "3");
        tells(run, "num 4;num 1;num 2;num 3;num 5;num 6", 6, "4");
        run.shown(5, "6");
    }

    private static void numbers(Held held) {
        String sentence = "num and a number (perhaps - ahead, 1 to 9 digits);";
        Run run = held.run(TERMS, sentence);
        faulty(run, "num ", 4);
        faulty(run, "num -", 5);
        faulty(run, "num ;", 4);
        faulty(run, "num -;", 5);
        faulty(run, "num --1", 5);
        faulty(run, "num +1", 4);
        faulty(run, "num 1-", 5);
        faulty(run, "num /", 4);
        faulty(run, "num :", 4);
        faulty(run, "num 1/", 5);
        faulty(run, "num 1:", 5);
        faulty(run, "num a", 4);
        faulty(run, "num 1a", 5);
        faulty(run, "num 1.5", 5);
        faulty(run, "num 1234567890", 13);
        faulty(run, "num -1234567890", 14);
        faulty(run, "num 0000000000", 13);
        run = held.run(TERMS, sentence);
        tells(run, "num 0", 1, "0");
        tells(run, "num -0", 1, "0");
        tells(run, "num 9", 1, "9");
        tells(run, "num -9", 1, "-9");
        tells(run, "num 000000009", 1, "9");
        tells(run, "num -000000009", 1, "-9");
        run = held.run(TERMS, sentence);
        run.text("num 999999999;num -999999999;num 123456789;num 100000000");
        run.due(4 + 4 * 8, "write", 3);
        run.shown(0, "999999999");
        run.shown(1, "-999999999");
        run.shown(2, "123456789");
        run.shown(3, "100000000");
    }

    private static void letters(Held held) {
        String sentence = "str and 0 to 20 letters a .. z;";
        Run run = held.run(TERMS, sentence);
        tells(run, "str ", 1, "\"\"");
        tells(run, "str a", 1, "\"a\"");
        tells(run, "str z;num 1", 2, "\"z\"");
        tells(run, "str " + TWENTY, 1, "\"" + TWENTY + "\"");
        run = held.run(TERMS, sentence);
        faulty(run, "str " + TWENTY + "u", 24);
        faulty(run, "str " + TWENTY + "uvw", 24);
        faulty(run, "str `", 4);
        faulty(run, "str {", 4);
        faulty(run, "str a`", 5);
        faulty(run, "str z{", 5);
        faulty(run, "str A", 4);
        faulty(run, "str aZ", 5);
        faulty(run, "str a1", 5);
        faulty(run, "str a b", 5);
        faulty(run, "str a,b", 5);
        faulty(run, "str \"a\"", 4);
    }

    private static void rawNumbers(Held held) {
        String sentence = "raw and 0 to 20 numbers (1 to 3 digits, 0 .. 255) with , between;";
        String nineteen = "1,2,3,4,5,6,7,8,9,0,1,2,3,4,5,6,7,8,9";
        Run run = held.run(TERMS, sentence);
        tells(run, "raw ", 1, "<>");
        tells(run, "raw 0", 1, "<0>");
        tells(run, "raw 00,000,255,9", 1, "<0,0,255,9>");
        tells(run, "raw " + nineteen, 1, "<" + nineteen + ">");
        run = held.run(TERMS, sentence);
        tells(run, "raw " + nineteen + ",255", 1, "<" + nineteen + ",255>");
        tells(run, "raw ;raw 7", 2, "<>");
        run = held.run(TERMS, sentence);
        faulty(run, "raw " + nineteen + ",0,", 43);
        faulty(run, "raw " + nineteen + ",0,1", 43);
        faulty(run, "raw ,", 4);
        faulty(run, "raw ,1", 4);
        faulty(run, "raw 1,", 6);
        faulty(run, "raw 1,,1", 6);
        run = held.run(TERMS, sentence);
        faulty(run, "raw 1,;", 6);
        faulty(run, "raw 0000", 7);
        faulty(run, "raw 1,2555", 9);
        faulty(run, "raw -1", 4);
        faulty(run, "raw 1,-1", 6);
        faulty(run, "raw /", 4);
        faulty(run, "raw :", 4);
        faulty(run, "raw 1/", 5);
        faulty(run, "raw 1:", 5);
        faulty(run, "raw a", 4);
        faulty(run, "raw 1a", 5);
    }

    private static void sets(Held held) {
        String sentence = "set and ( THINGS, 0 to 6, with ; between ).";
        Run run = held.run(TERMS, sentence);
        tells(run, "set()", 1, "()");
        tells(run, "set(num 1)", 1, "(1)");
        tells(run, "set(num 1;num 2;num 3;num 4;num 5;num 6)", 1, "(1;2;3;4;5;6)");
        tells(run, "set();set();set(str )", 3, "()");
        run = held.run(TERMS, sentence);
        faulty(run, "set(num 1;num 2;num 3;num 4;num 5;num 6;num 7)", 39);
        faulty(run, "set(num 1;num 2;num 3;num 4;num 5;num 6;)", 39);
        faulty(run, "set(", 4);
        faulty(run, "set(;", 4);
        faulty(run, "set(;)", 4);
        faulty(run, "set(num 1", 9);
        faulty(run, "set(num 1;", 10);
        faulty(run, "set(num 1;)", 10);
        run = held.run(TERMS, sentence);
        faulty(run, "set(num 1,num 2)", 9);
        faulty(run, "set(num 1))", 10);
        faulty(run, "set)", 3);
        faulty(run, "set", 3);
        faulty(run, "set;", 3);
        faulty(run, "set(set()", 9);
        faulty(run, "set(set())num 1", 10);
        faulty(run, "set()set()", 5);
        faulty(run, "num 1)", 5);
        faulty(run, ")", 0);
        faulty(run, "(", 0);
        // six in the set, and six sets
        run = held.run(TERMS, sentence);
        tells(run, "set(str ;str ;str ;str ;str ;set(num 1;num 2));set();set();set();set();set()", 6,
            "(\"\";\"\";\"\";\"\";\"\";(1;2))");
        run.due(6, "thing", 0, 1);
        run.due(9, "thing", 0, 2);
    }

    private static void blanks(Held held) {
        String sentence = "One blank behind num, str, raw; none else.";
        Run run = held.run(TERMS, sentence);
        faulty(run, "num", 3);
        faulty(run, "str", 3);
        faulty(run, "raw", 3);
        faulty(run, "num1", 3);
        faulty(run, "str;", 3);
        faulty(run, "raw\t1", 3);
        faulty(run, "num  1", 4);
        faulty(run, "str  a", 4);
        faulty(run, "raw  1", 4);
        faulty(run, "num - 1", 5);
        faulty(run, " num 1", 0);
        faulty(run, "num 1 ", 5);
        faulty(run, "num 1 ;num 2", 5);
        faulty(run, "num 1; num 2", 6);
        faulty(run, "str a ", 5);
        run = held.run(TERMS, sentence);
        faulty(run, "raw 1 ", 5);
        faulty(run, "raw 1 ,2", 5);
        faulty(run, "raw 1, 2", 6);
        faulty(run, "set ()", 3);
        faulty(run, "set( )", 4);
        faulty(run, "set( num 1)", 4);
        faulty(run, "set(num 1 )", 9);
        faulty(run, "set(num 1; num 2)", 10);
        faulty(run, "set() ", 5);
        faulty(run, " ", 0);
        tells(run, "num 1;str a;raw 1;set()", 4, "1");
    }

    private static void deepSets(Held held) {
        String sentence = "A set within 3 others is none.";
        Run run = held.run(TERMS, sentence);
        tells(run, "set(set(set()))", 1, "((()))");
        run.due(3, "thing", 0, 3);
        tells(run, "set(set(set(num 1;str a;raw 2)))", 1, "(((1;\"a\";<2>)))");
        tells(run, "set(set(set());set(set());num 4);set(set(set()))", 2, "((());(());4)");
        run = held.run(TERMS, sentence);
        faulty(run, "set(set(set(set())))", 12);
        faulty(run, "set(set(set(set", 12);
        faulty(run, "set(set(set(num 1;set())))", 18);
        faulty(run, "set(set(set(set(set()))))", 12);
        faulty(run, "set(set(set());set(set(set())))", 23);
        faulty(run, "set(set(set()));set(set(set(set())))", 28);
        run = held.run(TERMS, sentence);
        // a WORD there that is none at all, and one that is
        faulty(run, "set(set(set(sett())))", 12);
        faulty(run, "set(set(set(num )))", 16);
    }

    private static void words(Held held) {
        String sentence = "The FAULT OF THE TEXT: (from the first byte on, what comes first) the first byte of a"
            + " WORD (as many letters as stand there, also at the end) that is none of these;";
        Run run = held.run(TERMS, sentence);
        faulty(run, "n", 0);
        faulty(run, "nu", 0);
        faulty(run, "num", 3);
        faulty(run, "numm", 0);
        faulty(run, "numm 1", 0);
        faulty(run, "nun 1", 0);
        faulty(run, "nim 1", 0);
        faulty(run, "mum 1", 0);
        faulty(run, "st", 0);
        faulty(run, "strr a", 0);
        faulty(run, "sts a", 0);
        faulty(run, "se(", 0);
        faulty(run, "sett()", 0);
        faulty(run, "setnum", 0);
        faulty(run, "ra 1", 0);
        faulty(run, "raww 1", 0);
        faulty(run, "rew 1", 0);
        run = held.run(TERMS, sentence);
        faulty(run, "a", 0);
        faulty(run, "z", 0);
        faulty(run, TWENTY + TWENTY + TWENTY + TWENTY, 0);
        faulty(run, "num 1;s", 6);
        faulty(run, "num 1;st", 6);
        faulty(run, "num 1;strr a", 6);
        faulty(run, "set(n", 4);
        run = held.run(TERMS, sentence);
        faulty(run, "set(num 1;nu 1)", 10);
        faulty(run, "set(x", 4);
        // what comes first
        faulty(run, "num x;nun 1", 4);
        faulty(run, "nun x;num x", 0);
        faulty(run, "raw 256;nun 1", 6);
        faulty(run, "num 1;nun 1;raw 256", 6);
        faulty(run, "str a?;raw 999", 5);
        faulty(run, "num 12345678901;", 13);
        run = held.run(TERMS, sentence);
        run.text("a".repeat(100));
        run.due(-10, "write", 1);
        run.due(0, "count", 4);
    }

    private static void wrongBytes(Held held) {
        Run run = held.run(TERMS, WRONG);
        faulty(run, "", 0);
        faulty(run, "1", 0);
        faulty(run, "?num 1", 0);
        faulty(run, "num ?", 4);
        faulty(run, "num 1?", 5);
        faulty(run, "num 1;?", 6);
        faulty(run, "str ?", 4);
        faulty(run, "raw ?", 4);
        faulty(run, "raw 1,?", 6);
        faulty(run, "set?", 3);
        faulty(run, "set(?", 4);
        faulty(run, "set(num 1?", 9);
        faulty(run, "set(num 1;?", 10);
        faulty(run, "set()?", 5);
        run = held.run(TERMS, WRONG);
        for (String open : new String[] {"num", "num ", "num -", "num 1;", "raw 1,", "set", "set(", "set(num 1",
            "set(num 1;", "set(set()", "set(str ", "set(raw 1"}) {
            faulty(run, open, open.length());
        }
        run = held.run(TERMS, WRONG);
        // the end of the longest text there may be
        run.text("set(str " + TWENTY + ";str " + TWENTY + ";str " + TWENTY + ";str aaaaaaaaaaaaaaaaa");
        run.due(100, "count", 4);
        run.due(-110, "write", 1);
        run.due(0, "count", 4);
        run.due(1, "feed", 0);
        run.due(-10, "write", 1);
    }

    private static void above255(Held held) {
        String sentence = "a number above 255: its third digit's place.";
        Run run = held.run(TERMS, sentence);
        tells(run, "raw 255", 1, "<255>");
        tells(run, "raw 249,199,99", 1, "<249,199,99>");
        tells(run, "raw 025,099", 1, "<25,99>");
        run = held.run(TERMS, sentence);
        faulty(run, "raw 256", 6);
        faulty(run, "raw 260", 6);
        faulty(run, "raw 300", 6);
        faulty(run, "raw 999", 6);
        faulty(run, "raw 2567", 6);
        faulty(run, "raw 2555", 7);
        faulty(run, "raw 0256", 7);
        faulty(run, "raw 1,256", 8);
        faulty(run, "raw 12,345,6", 9);
        faulty(run, "set(raw 256)", 10);
        faulty(run, "raw 256,", 6);
        run = held.run(TERMS, sentence);
        faulty(run, "raw 1,2,3,4,5,6,7,8,9,0,1,2,3,4,5,6,7,8,9,256", 44);
    }

    private static void written(Held held) {
        String sentence = "WRITTEN by a VERSION: the head, ENTRIES, then the CHUNKS one behind the other, in their"
            + " order;";
        for (int version = 1; version <= 3; version++) {
            Run run = held.run(TERMS, sentence);
            run.text("num 7;str ab;raw 8,255;set(num -2;set();str )");
            int[] inner = Made.join(Made.chunk(version, 110, 254), Made.chunk(version, 103), Made.chunk(version, 115));
            int[] file = Made.fileOf(version, Made.chunk(version, 110, 7), Made.chunk(version, 115, 97, 98),
                Made.chunk(version, 114, 8, 255), Made.chunk(version, 103, inner));
            run.due(file.length, "write", version);
            run.fileIs(file);
            run.due(67, "at", 0);
            run.due(70, "at", 1);
            run.due(version, "at", 2);
            run.due(4, "at", 3);
            run.due(16, "at", 5);
            run.due(18, "at", 8);
            run.due(21, "at", 11);
            run.due(24, "at", 14);
            run.whole(4);
        }
        Run run = held.run(TERMS, sentence);
        // the least there may be, and six of them
        run.text("str ");
        run.due(8, "write", 1);
        run.fileIs(67, 70, 1, 1, 115, 7, 0, 0);
        run.text("str ;raw ;set();str ;raw ;set()");
        run.due(28, "write", 3);
        run.fileIs(67, 70, 3, 6, 115, 22, 0, 114, 23, 0, 103, 24, 0, 115, 25, 0, 114, 26, 0, 103, 27, 0,
            0, 0, 0, 0, 0, 0);
    }

    private static void fewestBytes(Held held) {
        String sentence = "a NUMBER by as few bytes (1 to 4) as READ again give it.";
        int[] numbers = {0, 1, -1, 127, 128, -128, -129, 255, -255, 256, -256, 32767, 32768, -32768, -32769, 65535,
            -65536, 8388607, 8388608, -8388608, -8388609, 16777216, 999999999, -999999999};
        int[] lengths = {1, 1, 1, 1, 2, 1, 2, 2, 2, 2, 2, 2, 3, 2, 3, 3, 3, 3, 4, 3, 4, 4, 4, 4};
        for (int k = 0; k < numbers.length; k++) {
            Run run = held.run(TERMS, sentence);
            run.text("num " + numbers[k]);
            run.due(8 + lengths[k], "write", 1 + k % 3);
            run.due(lengths[k], "at", 6);
            for (int b = 0; b < lengths[k]; b++) {
                run.due(numbers[k] >> 8 * (lengths[k] - 1 - b) & 255, "at", 7 + b);
            }
            run.due(numbers[k], "thing", 0, 1);
            run.text("set(num " + numbers[k] + ")");
            run.due(11 + lengths[k], "write", 1);
            run.due(lengths[k], "at", 8);
            run.shown(0, "(" + numbers[k] + ")");
        }
        Run run = held.run(TERMS, sentence);
        // those that no text tells
        int[][] payloads = {{127, 255, 255, 255}, {128, 0, 0, 0}, {0, 0, 0, 0}, {255, 255, 255, 255}, {0, 0, 0, 128},
            {255, 255, 255, 127}, {255, 128, 0}, {0, 127}, {255, 128}, {0, 128}};
        int[] fewest = {4, 4, 1, 1, 2, 2, 2, 1, 1, 2};
        for (int k = 0; k < payloads.length; k++) {
            run.fileNow(Made.file(2, 110, payloads[k]));
            run.due(8 + fewest[k], "as", 1, 0);
        }
    }

    private static void write(Held held) {
        String sentence = "THE TEXT, which is empty then (by a FAULT, too), are THINGS, WRITTEN by a VERSION: THE"
            + " FILE is that: how many bytes.";
        Run run = held.run(WRITE, sentence);
        run.file(1, 2, 3, 4, 5, 6, 7, 8, 9, 10, 11, 12);
        run.text("num 7");
        run.due(9, "write", 1);
        run.due(0, "count", 4);
        run.fileIs(67, 70, 1, 1, 110, 7, 1, 7, 7);
        // the FAULT leaves THE FILE
        run.text("num 8?");
        run.due(-15, "write", 2);
        run.due(0, "count", 4);
        run.fileIs(67, 70, 1, 1, 110, 7, 1, 7, 7);
        run.due(-10, "write", 2);
        run.fileIs(67, 70, 1, 1, 110, 7, 1, 7, 7);
        run.text("num 9");
        run.due(9, "write", 3);
        run.fileIs(67, 70, 3, 1, 110, 7, 1, 9, 9);
        run.due(-10, "write", 1);
        run.due(9, "count", 0);
        run = held.run(WRITE, "-10 less the FAULT OF THE TEXT;");
        run.due(-10, "write", 1);
        run.text("num");
        run.due(-13, "write", 1);
        run.text("?");
        run.due(-10, "write", 2);
        run.text("num 1;num 2;num 3;num 4;num 5;num 6;num 7");
        run.due(-45, "write", 3);
        run.due(0, "count", 4);
        run.fileIs();
    }

    private static void writeRefused(Held held) {
        Run run = held.run(WRITE, "NONE: version (THE TEXT stays);");
        for (long version : Run.NO_VERSIONS) {
            run.refused(Run.NONE, "write", version);
        }
        run.file(1, 2);
        run.text("num 5");
        for (long version : Run.NO_VERSIONS) {
            run.refused(Run.NONE, "write", version);
            run.due(5, "count", 4);
        }
        run.fileIs(1, 2);
        run.due(6, "feed", '6');
        run.due(9, "write", 3);
        run.due(56, "thing", 0, 1);
        run = held.run(WRITE, "NONE: version (THE TEXT stays);");
        // also where THE TEXT has a FAULT
        run.text("nun");
        for (long version : Run.NO_VERSIONS) {
            run.refused(Run.NONE, "write", version);
        }
        run.due(3, "count", 4);
        run.due(-10, "write", 1);
        run.refused(Run.NONE, "write", 0);
        run.due(0, "count", 4);
    }

    /** No text of 100 signs comes to more than 120 bytes: the most that one comes to is WRITTEN. */
    private static void longest(Held held) {
        Run run = held.run(WRITE, "FULL: more than 120.");
        run.text("str " + TWENTY + ";str " + TWENTY + ";str " + TWENTY + ";str " + TWENTY);
        run.due(100, "write", 3);
        run.whole(4);
        run = held.run(WRITE, "FULL: more than 120.");
        run.text("str " + TWENTY + ";str " + TWENTY + ";str " + TWENTY + ";str abcdefghijklmnop;str ");
        run.due(100, "count", 4);
        run.due(4 + 3 * 24 + 20 + 4, "write", 1);
        run.due(0, "count", 4);
    }
}
