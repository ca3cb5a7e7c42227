/** Promises 1 to 4: each sentence about the text that names a boundary case, the sentence ahead of its test. */
public final class TextEdgesTest {
    private static final int BAD = TriangleRest.BAD;
    private static final int STATE = TriangleRest.STATE;
    private static final int FULL = TriangleRest.FULL;
    private static final int NONE = TriangleRest.NONE;
    private static final int NO = TriangleRest.NO;

    private static final Check CHECK = new Check();

    public static void main(String[] args) {
        eightSections();
        lengths();
        times();
        players();
        noteAtFirst();
        noteTold();
        noteOnce();
        sixThings();
        minutes();
        bytesOfText();
        bytesTaken();
        cleared();
        nothingBehindItsEnd();
        blanks();
        noItems();
        letters();
        digits();
        numbersTooLong();
        zerosAhead();
        endsTooEarly();
        whatCannotStand();
        firstFaultCounts();
        faultPlaces();
        textStays();
        textIsEmptyThen();
        readAnew();
        readAnewWithNothing();
        refusedKeepsAll();
        CHECK.end();
    }

    private static void due(String call, long got, long want) {
        CHECK.due(call, got, want);
    }

    private static TriangleRest typed(String text) {
        TriangleRest x = Twins.midst();
        x.clear();
        Check.type(x, text);
        return x;
    }

    private static TriangleRest read(String text, int items) {
        TriangleRest x = typed(text);
        due("piece() of \"" + text + "\"", x.piece(), items);
        due("text after \"" + text + "\"", x.count(4), 0);
        return x;
    }

    private static void faultAt(String text, int place) {
        Twins.refused(CHECK, "piece() of \"" + text + "\"", () -> typed(text), TriangleRest::piece, -10 - place);
    }

    /** "SECTIONS 0 .. (8 at most)"; "a ninth SECTION" */
    private static void eightSections() {
        due("one section", read("s1 1 0;", 1).count(0), 1);
        TriangleRest x = read("s1 1 0;s2 1 1;s3 1 2;s4 1 3;s5 2 0;s6 3 1;s7 4 2;s8 1 3;", 8);
        due("eight sections", x.count(0), 8);
        for (int s = 0; s < 8; s++) {
            due("eight sections, LONG of " + s, x.section(s, 0), s + 1);
        }
        due("eight sections, no ninth", x.section(8, 0), BAD);
        String eight = "s1 1 0;".repeat(8);
        faultAt(eight + "s1 1 0;", 56);
        faultAt(eight + "s", 56);
        faultAt(eight + " s99", 57);
        faultAt(eight + "t5;n0 0;s1 1 0;", 64);
        due("eight sections and others", read(eight + "t5;n0 0;", 10).count(0), 8);
    }

    /** "LONG (1 .. 30 bars)" */
    private static void lengths() {
        for (int n = 0; n <= 100; n++) {
            if (n >= 1 && n <= 30) {
                due("LONG " + n, read("s" + n + " 1 0;", 1).section(0, 0), n);
            } else {
                faultAt("s" + n + " 1 0;", 1);
            }
        }
    }

    /** "TIMES (1 .. 4)" */
    private static void times() {
        for (int n = 0; n <= 100; n++) {
            if (n >= 1 && n <= 4) {
                due("TIMES " + n, read("s30 " + n + " 0;", 1).section(0, 1), n);
            } else {
                faultAt("s30 " + n + " 0;", 4);
            }
        }
    }

    /** "WHO plays it (0 HORNS, 1 STRINGS, 2 BRASS, 3 CHOIR)" */
    private static void players() {
        for (int n = 0; n <= 100; n++) {
            if (n <= 3) {
                due("WHO " + n, read("s30 4 " + n + ";", 1).section(0, 2), n);
            } else {
                faultAt("s30 4 " + n + ";", 6);
            }
        }
        faultAt("s30 4 -1;", 6);
    }

    /** "NOTE: in which SECTION (the last one at first), at which of its bars (0 at first), the last time" */
    private static void noteAtFirst() {
        due("NOTE of one bar", read("s1 1 0;", 1).now(6), 0);
        due("NOTE, the last time", read("s30 4 0;", 1).now(6), 90);
        due("NOTE, the last section", read("s5 2 0;s4 3 1;", 2).now(6), 10 + 8);
        due("NOTE, the last of eight", read("s30 4 0;".repeat(8), 8).now(6), 7 * 120 + 90);
        due("NOTE, none", read("t5;", 1).now(6), NONE);
    }

    /** "n S B (NOTE: a SECTION told ahead, a bar of it ..)": "(0 .. LONG less 1)" */
    private static void noteTold() {
        String two = "s5 2 0;s4 3 1;";
        due("NOTE 0 0", read(two + "n0 0;", 3).now(6), 5);
        due("NOTE 0 4, its last bar", read(two + "n0 4;", 3).now(6), 9);
        faultAt(two + "n0 5;", 17);
        faultAt(two + "n0 9;", 17);
        due("NOTE 1 0", read(two + "n1 0;", 3).now(6), 18);
        due("NOTE 1 3, its last bar", read(two + "n1 3;", 3).now(6), 21);
        faultAt(two + "n1 4;", 17);
        faultAt(two + "n2 0;", 15);
        faultAt(two + "n2 0;s1 1 0;", 15);
        faultAt("n0 0;", 1);
        faultAt("n0 0;s5 2 0;", 1);
        faultAt("t5;n0 0;", 4);
        due("NOTE in what is told ahead", read("s5 2 0;n0 3;s4 3 1;", 3).now(6), 8);
        due("NOTE 0 0 of one bar", read("s1 4 0;n0 0;", 2).now(6), 3);
        faultAt("s1 4 0;n0 1;", 10);
        due("NOTE 0 29", read("s30 1 0;n0 29;", 2).now(6), 29);
        faultAt("s30 1 0;n0 30;", 11);
        due("NOTE 7 29", read("s30 4 0;".repeat(8) + "n7 29;", 9).now(6), 959);
        faultAt("s30 4 0;".repeat(8) + "n8 29;", 65);
    }

    /** "(.. once at most)"; "n again" */
    private static void noteOnce() {
        faultAt("s1 1 0;n0 0;n0 0;", 12);
        faultAt("s1 1 0;n0 0;s1 1 0; n1 0;", 20);
        faultAt("s1 1 0;n0 0;n", 12);
        faultAt("s1 1 0;n0 0;nn", 12);
        TriangleRest x = read("s5 1 0;n0 2;", 2);
        Check.type(x, "s5 1 0;n0 3;");
        due("n once in each text", x.piece(), 2);
        due("n once in each text, NOTE", x.now(6), 3);
    }

    /** "THINGS 0 .. (6 at most)"; "a seventh THING" */
    private static void sixThings() {
        due("no things", read("s1 1 0;", 1).count(1), 0);
        TriangleRest x = read("t1;t2;t3;t4;t5;t6;", 6);
        due("six things", x.count(1), 6);
        for (int t = 0; t < 6; t++) {
            due("six things, MINUTES of " + t, x.thing(t), t + 1);
        }
        due("six things, no seventh", x.thing(6), BAD);
        faultAt("t1;t2;t3;t4;t5;t6;t7;", 18);
        faultAt("t1;t2;t3;t4;t5;t6;t", 18);
        faultAt("t1;t2;t3;t4;t5;t6;s1 1 0; t1;", 26);
    }

    /** "MINUTES (1 .. 60 ..)" */
    private static void minutes() {
        for (int n = 0; n <= 100; n++) {
            if (n >= 1 && n <= 60) {
                due("MINUTES " + n, read("t" + n + ";", 1).thing(0), n);
            } else {
                faultAt("t" + n + ";", 1);
            }
        }
    }

    /** "a text (120 bytes at most)"; type: "how many it has"; "FULL" */
    private static void bytesOfText() {
        TriangleRest x = new TriangleRest();
        for (int i = 1; i <= 120; i++) {
            due("type, byte " + i, x.type(i > 117 ? "t5;".charAt(i - 118) : 32), i);
        }
        due("type, byte 121", x.type(32), FULL);
        due("type, byte 121 again", x.type(0), FULL);
        due("bytes then", x.count(4), 120);
        due("120 bytes are read", x.piece(), 1);
        due("type behind that", x.type(32), 1);
        faultAt(" ".repeat(119) + "x", 119);
        faultAt(" ".repeat(119) + "t", 120);
        faultAt(" ".repeat(118) + "t5", 120);
        faultAt("t5" + " ".repeat(118), 120);
        faultAt("x".repeat(120), 0);
        faultAt("t" + "5".repeat(119), 1);
        faultAt("t" + "0".repeat(119), 1);
    }

    /** type: "A byte (0 .. 255)" */
    private static void bytesTaken() {
        for (int c = 0; c <= 255; c++) {
            due("type(" + c + ")", new TriangleRest().type(c), 1);
        }
        due("type(-1)", new TriangleRest().type(-1), BAD);
        due("type(256)", new TriangleRest().type(256), BAD);
        due("type(256 + 32)", new TriangleRest().type(256 + 32), BAD);
    }

    /** clear: "THE TEXT is empty: how many bytes it had." */
    private static void cleared() {
        TriangleRest x = new TriangleRest();
        due("clear(), empty", x.clear(), 0);
        x.type('t');
        due("clear(), one byte", x.clear(), 1);
        due("clear() again", x.clear(), 0);
        Check.type(x, "x".repeat(120));
        due("clear(), full", x.clear(), 120);
        due("type behind clear()", x.type('t'), 1);
        due("type behind clear(), the second", x.type('5'), 2);
        due("what was cleared is not read", x.piece(), -10 - 2);
        Check.type(x, ";");
        due("what is typed is read", x.piece(), 1);
    }

    /** What stood there ahead of clear() or piece() is no part of a shorter text. */
    private static void nothingBehindItsEnd() {
        String[][] rows = {{"tx5;", "t"}, {"t  5;", "t "}, {"t55;", "t5"}, {"t5;", "t5"}, {"s1 1 0;;", "s1 1 0"}};
        for (String[] row : rows) {
            TriangleRest x = new TriangleRest();
            Check.type(x, row[0]);
            x.clear();
            Check.type(x, row[1]);
            due("piece() of \"" + row[1] + "\" behind \"" + row[0] + "\"", x.piece(), -10 - row[1].length());
        }
        TriangleRest x = Check.reading("t5;t6;");
        Check.type(x, "t7;");
        due("piece() of a shorter text", x.piece(), 1);
        due("its things", x.count(1), 1);
    }

    /** "blanks (32) ahead of, between and behind TOKENS as may be (none needed where TOKENS end without)" */
    private static void blanks() {
        read("s4 2 0;n0 1;t5;", 3);
        read("   s   4   2   0   ;   n   0   1   ;   t   5   ;   ", 3);
        read(" t5;", 1);
        read("t 5;", 1);
        read("t5 ;", 1);
        read("t5; ", 1);
        due("blanks needed between numbers", read("s4 2 0;", 1).section(0, 0), 4);
        faultAt("s42 0;", 1);
        faultAt("s4 20;", 3);
        faultAt("s4 2 0;n01;", 8);
        due("blanks within a number end it", read("s1 1 0;", 1).section(0, 1), 1);
        faultAt("t1 0;", 3);
        faultAt("s t5;", 2);
        for (int c = 0; c <= 255; c++) {
            boolean token = c >= 'a' && c <= 'z' || c >= '0' && c <= '9' || c == ';';
            if (c != 32 && !token) {
                faultAt((char) c + "t5;", 0);
                faultAt("t" + (char) c + "5;", 1);
                faultAt("t5" + (char) c + ";", 2);
                faultAt("t5;" + (char) c, 3);
            }
        }
    }

    /** "ITEMS (none, too)" */
    private static void noItems() {
        for (String text : new String[] {"", " ", " ".repeat(120)}) {
            TriangleRest x = read(text, 0);
            due("no sections of \"" + text + "\"", x.count(0), 0);
            due("no things of \"" + text + "\"", x.count(1), 0);
            due("no bars of \"" + text + "\"", x.now(5), 0);
        }
        due("a new object reads nothing", new TriangleRest().piece(), 0);
        faultAt(";", 0);
        faultAt("t5;;", 3);
        faultAt("  ;", 2);
    }

    /** "TOKENS are letters a .. z side by side"; "letters that begin no ITEM" */
    private static void letters() {
        for (char c = 'a'; c <= 'z'; c++) {
            faultAt("t" + c + "5;", 0);
            faultAt("t5;t5" + c + ";", 5);
            if (c != 's' && c != 'n' && c != 't') {
                faultAt("t5;" + c + "5;", 3);
            } else {
                faultAt("t5;" + c, 4);
            }
        }
        faultAt("t`5;", 1);
        faultAt("t{5;", 1);
        faultAt("tA5;", 1);
        faultAt("tZ5;", 1);
        faultAt("T5;", 0);
        faultAt("S1 1 0;", 0);
    }

    /** "NUMBERS": of digits 0 .. 9 and of nothing else */
    private static void digits() {
        for (int c = '0'; c <= '9'; c++) {
            due("digit " + (char) c, read("s1" + (c > '0' ? " 1" : "0 1") + " 0;t1" + (char) c + ";", 2).thing(0), 10 + c - '0');
        }
        faultAt("t/5;", 1);
        faultAt("t1/;", 2);
        faultAt("t:5;", 1);
        faultAt("t1:;", 2);
        faultAt("t1.0;", 2);
        faultAt("t+1;", 1);
        faultAt("t-1;", 1);
    }

    /** "a NUMBER above 99": that TOKEN's place, however long it is */
    private static void numbersTooLong() {
        String[] numbers = {"99", "100", "101", "105", "130", "160", "256", "261", "999", "1000", "65541", "2147483647",
            "2147483648", "4294967296", "4294967297", "4294967301", "18446744073709551617", "18446744073709551621"};
        for (String number : numbers) {
            faultAt("t" + number + ";", 1);
            faultAt("s" + number + " 1 0;", 1);
            faultAt("s1 " + number + " 0;", 3);
            faultAt("s1 1 " + number + ";", 5);
            faultAt("s1 1 0;n" + number + " 0;", 8);
            faultAt("s1 1 0;n0 " + number + ";", 10);
        }
        faultAt("100", 0);
        faultAt("t5;100", 3);
        faultAt("t5 100;", 3);
    }

    /** "a NUMBER .. with a 0 ahead of others" */
    private static void zerosAhead() {
        for (String number : new String[] {"00", "01", "05", "09", "000", "001", "010", "030"}) {
            faultAt("t" + number + ";", 1);
            faultAt("s" + number + " 1 0;", 1);
            faultAt("s1 " + number + " 0;", 3);
            faultAt("s1 1 " + number + ";", 5);
            faultAt("s1 1 0;n" + number + " 0;", 8);
            faultAt("s1 1 0;n0 " + number + ";", 10);
        }
        due("0 alone", read("s1 1 0;n0 0;", 2).section(0, 2), 0);
        due("0 behind others", read("t10;t60;", 2).thing(1), 60);
    }

    /** "the text's length, if it ends too early" */
    private static void endsTooEarly() {
        String[] whole = {"s", "s4", "s4 2", "s4 2 0", "n", "s4 2 0;n", "s4 2 0;n0", "s4 2 0;n0 3", "t", "t5", "t5;s", "t5;t"};
        for (String text : whole) {
            for (int more = 0; more < 3; more++) {
                faultAt(text + " ".repeat(more), text.length() + more);
                faultAt(" " + text + " ".repeat(more), text.length() + more + 1);
            }
        }
    }

    /** "the first byte of the first TOKEN that can't stand there" */
    private static void whatCannotStand() {
        faultAt("5", 0);
        faultAt("s;", 1);
        faultAt("s4;", 2);
        faultAt("s4 2;", 4);
        faultAt("s4 2 0 1;", 7);
        faultAt("s4 2 0 s", 7);
        faultAt("ss", 0);
        faultAt("s s", 2);
        faultAt("s4 s", 3);
        faultAt("n;", 1);
        faultAt("s4 2 0;n;", 8);
        faultAt("s4 2 0;n0;", 9);
        faultAt("s4 2 0;n0 3 0;", 12);
        faultAt("t;", 1);
        faultAt("t5 5;", 3);
        faultAt("t5 t5;", 3);
        faultAt("st5;", 0);
        for (String letters : new String[] {"s", "n", "t", "x", "ab", "st"}) {
            faultAt("t" + " " + letters + ";", 2);
            faultAt("s " + letters + " 1 0;", 2);
            faultAt("s1 " + letters + " 0;", 3);
            faultAt("s1 1 " + letters + ";", 5);
            faultAt("s1 1 0" + letters, 6);
            faultAt("s1 1 0;n " + letters + " 0;", 9);
            faultAt("s1 1 0;n0 " + letters + ";", 10);
        }
        faultAt("  abc;", 2);
    }

    private static void firstFaultCounts() {
        faultAt("t0;t61;", 1);
        faultAt("x!", 0);
        faultAt("t5;x 100", 3);
        faultAt("t5;100 x", 3);
        faultAt("t61" + (char) 200, 1);
        faultAt("s31 5 4", 1);
        faultAt("s30 5 4", 4);
        faultAt("s30 4 4", 6);
        faultAt("t0", 1);
    }

    /** piece: "-10 less FAULT" */
    private static void faultPlaces() {
        for (int place = 0; place < 120; place++) {
            faultAt(" ".repeat(place) + "x", place);
        }
        faultAt(" ".repeat(119) + "s", 120);
    }

    /** piece: "nothing changes (THE TEXT, too, stays)" */
    private static void textStays() {
        TriangleRest x = new TriangleRest();
        String text = "s4 2 0;t5;";
        for (int i = 0; i < text.length(); i++) {
            x.type(text.charAt(i));
            boolean whole = i == 6 || i == 9;
            if (!whole) {
                due("piece(), " + (i + 1) + " bytes", x.piece(), -10 - (i + 1));
                due("piece() again, " + (i + 1) + " bytes", x.piece(), -10 - (i + 1));
                due("bytes, " + (i + 1), x.count(4), i + 1);
            }
        }
        due("piece(), when it is whole", x.piece(), 2);
        due("its section", x.section(0, 1), 2);
        due("its thing", x.thing(0), 5);
    }

    /** piece: "THE TEXT tells all, and is empty then: how many ITEMS." */
    private static void textIsEmptyThen() {
        TriangleRest x = read("s4 2 0;s3 1 1;n1 2;t5;t6;", 5);
        due("clear(), the text was read", x.clear(), 0);
        due("type, the text was read", x.type('t'), 1);
        due("what was read is not read again", x.piece(), -10 - 1);
        due("all of fifteen items", read("s1 1 0;".repeat(8) + "n0 0;" + "t1;".repeat(6), 15).now(5), 8);
    }

    /** "(Read anew: as told (what is not told as at first), nothing HEARD or to be UNDONE, IMAGES are gone; ..)" */
    private static void readAnew() {
        TriangleRest x = read("s7 1 2;s2 1 2;", 2);
        long[] nows = {0, 0, 0, 0, 0, 9, 7, 7, 0};
        for (int what = 0; what < nows.length; what++) {
            due("read anew, now(" + what + ")", x.now(what), nows[what]);
        }
        long[] counts = {2, 0, 0, 0, 0};
        for (int what = 0; what < counts.length; what++) {
            due("read anew, count(" + what + ")", x.count(what), counts[what]);
        }
        due("read anew, things are gone", x.thing(0), BAD);
        due("read anew, sections are gone", x.section(2, 0), BAD);
        due("read anew, undo()", x.undo(), STATE);
        due("read anew, back(0)", x.back(0), STATE);
        due("read anew, back(1)", x.back(1), STATE);
        due("read anew, places(-1)", x.places(-1), 9);
        due("read anew, pack(-1)", x.pack(-1), 0);
        due("read anew, nothing is cut", x.section(1, 3), 0);
        due("THE TRACE goes on", x.trace(), 10101);
        due("struck is gone", struckThenRead().now(4), 0);
    }

    private static TriangleRest struckThenRead() {
        TriangleRest x = Check.reading("s1 1 0;");
        x.bars(1);
        due("struck ahead of reading", x.now(4), 1);
        Check.type(x, "s1 1 0;");
        due("piece(), struck", x.piece(), 1);
        return x;
    }

    private static void readAnewWithNothing() {
        TriangleRest x = read("", 0);
        long[] nows = {0, 0, 0, 0, 0, 0, NONE, NO, NONE};
        for (int what = 0; what < nows.length; what++) {
            due("read nothing, now(" + what + ")", x.now(what), nows[what]);
        }
        due("read nothing, section(0, 0)", x.section(0, 0), BAD);
        due("read nothing, thing(0)", x.thing(0), BAD);
        due("read nothing, back(0)", x.back(0), STATE);
        due("read nothing, undo()", x.undo(), STATE);
        due("read nothing, THE TRACE", x.trace(), 10101);
    }

    private static void refusedKeepsAll() {
        TriangleRest x = typed("s1 1 0;t9;n0 0;s");
        due("refused", x.piece(), -10 - 16);
        due("sections are as they were", x.count(0), 5);
        due("things are as they were", x.thing(0), 8);
        due("the note is as it was", x.now(6), 8 + 5 + 4 + 1);
        due("what was heard is", x.count(2), 2);
        due("images are kept", x.back(0), 8);
    }
}
