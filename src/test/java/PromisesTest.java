/** Each promise by itself: ordinary inputs, the edges that the document names, wrong inputs. */
public final class PromisesTest {
    private static final int BAD = TriangleRest.BAD;
    private static final int STATE = TriangleRest.STATE;
    private static final int FULL = TriangleRest.FULL;
    private static final int NONE = TriangleRest.NONE;
    private static final int NO = TriangleRest.NO;
    private static final int LEAST = Integer.MIN_VALUE;
    private static final int MOST = Integer.MAX_VALUE;

    /** Bars: section 0 has 0 .. 7, 1 has 8 .. 10, 2 has 11 .. 15, 3 has 16 .. 21, 4 has 22 .. 27; note 21. */
    private static final String PIECE = "s4 2 0;s3 1 1;s5 1 2;s2 3 0;s6 1 3;n3 1;t8;t3;";

    private static final Check CHECK = new Check();

    public static void main(String[] args) {
        newObject();
        type();
        clear();
        piece();
        faults();
        faultsOfTokens();
        fullText();
        pieceForgets();
        longestPiece();
        section();
        thing();
        bar();
        bars();
        struck();
        slips();
        cue();
        cuts();
        waits();
        undo();
        undoRestoresAll();
        now();
        trim();
        odds();
        hears();
        forget();
        places();
        listen();
        pack();
        mark();
        images();
        count();
        CHECK.end();
    }

    private static void due(String call, long got, long want) {
        CHECK.due(call, got, want);
    }

    private static void newObject() {
        TriangleRest x = new TriangleRest();
        long[] nows = {0, 0, 0, 0, 0, 0, NONE, NO, NONE};
        for (int what = 0; what < nows.length; what++) {
            due("1: now(" + what + ")", x.now(what), nows[what]);
        }
        for (int what = 0; what < 5; what++) {
            due("1: count(" + what + ")", x.count(what), 0);
        }
        due("1: trace()", x.trace(), 0);
        due("1: section(0, 0)", x.section(0, 0), BAD);
        due("1: thing(0)", x.thing(0), BAD);
        due("1: back(0)", x.back(0), STATE);
        due("1: undo()", x.undo(), STATE);
        due("1: cuts(0)", x.cuts(0), BAD);
        due("1: mark(0, 0)", x.mark(0, 0), NO);
    }

    private static void type() {
        TriangleRest x = new TriangleRest();
        for (int i = 1; i <= 120; i++) {
            due("2: type, byte " + i, x.type(i % 2 == 0 ? 0 : 255), i);
        }
        due("2: type(65), 120 are there", x.type(65), FULL);
        due("2: type(-1), 120 are there", x.type(-1), BAD);
        due("2: count(4)", x.count(4), 120);
        for (int c : new int[] {-1, 256, LEAST, MOST}) {
            due("2: type(" + c + ")", new TriangleRest().type(c), BAD);
        }
    }

    private static void clear() {
        TriangleRest x = Check.reading(PIECE);
        Check.type(x, "abc");
        due("3: clear()", x.clear(), 3);
        due("3: clear() again", x.clear(), 0);
        due("3: count(4)", x.count(4), 0);
        due("3: count(0)", x.count(0), 5);
        due("3: type(32) then", x.type(32), 1);
    }

    private static void readsAs(String text, int want) {
        TriangleRest x = Check.reading("s9 1 2;t5;");
        x.slips(3);
        Check.type(x, text);
        due("4: piece() of \"" + text + "\"", x.piece(), want);
        boolean refused = want < 0;
        due("4: text after \"" + text + "\"", x.count(4), refused ? text.length() : 0);
        due("4: count after \"" + text + "\"", x.now(1), refused ? 3 : 0);
        if (refused) {
            due("4: sections after \"" + text + "\"", x.count(0), 1);
            due("4: section(0, 0) after \"" + text + "\"", x.section(0, 0), 9);
            due("4: thing(0) after \"" + text + "\"", x.thing(0), 5);
            due("4: note after \"" + text + "\"", x.now(6), 0);
        }
    }

    private static void piece() {
        readsAs("", 0);
        readsAs("   ", 0);
        readsAs(PIECE, 8);
        readsAs("  s  30   4  3  ;  n 0 29 ;t60;  ", 3);
        readsAs("s1 1 0;n0 0;s1 1 0;", 3);
        readsAs("t1;t1;t1;t1;t1;t1;", 6);
        readsAs("s1 1 0;s1 1 0;s1 1 0;s1 1 0;s1 1 0;s1 1 0;s1 1 0;s1 1 0;n7 0;", 9);
        TriangleRest last = Check.reading("s5 2 0;s4 3 1;");
        due("4: the note at first", last.now(6), 10 + 8);
        TriangleRest told = Check.reading("s5 2 0;n0 3;s4 3 1;");
        due("4: the note told ahead of a section", told.now(6), 5 + 3);
        TriangleRest none = Check.reading(PIECE);
        due("4: piece() of nothing", none.piece(), 0);
        due("4: no sections then", none.count(0), 0);
        due("4: no things then", none.count(1), 0);
    }

    private static void faultAt(String text, int place) {
        readsAs(text, -10 - place);
    }

    private static void faults() {
        faultAt("s", 1);
        faultAt("s  ", 3);
        faultAt("s5 2 0", 6);
        faultAt("n", 1);
        faultAt("s5 2 0;n0 ", 10);
        faultAt("t", 1);
        faultAt("t5 ", 3);
        faultAt("s0 1 0;", 1);
        faultAt("s31 1 0;", 1);
        faultAt("s30 0 0;", 4);
        faultAt("s30 5 0;", 4);
        faultAt("s30 4 4;", 6);
        faultAt("s30 4 3 0;", 8);
        faultAt("s30 4;", 5);
        faultAt("n0 0;", 1);
        faultAt("s3 1 0;n1 0;", 8);
        faultAt("s3 1 0;n0 3;", 10);
        faultAt("s3 4 0;n0 3;", 10);
        faultAt("s3 1 0;n0 2;n0 2;", 12);
        faultAt("s1 1 0;n0 0;n", 12);
        faultAt("t0;", 1);
        faultAt("t61;", 1);
        faultAt("t5 5;", 3);
        faultAt("t1;t1;t1;t1;t1;t1; t1;", 19);
        faultAt("s1 1 0;s1 1 0;s1 1 0;s1 1 0;s1 1 0;s1 1 0;s1 1 0;s1 1 0;s", 56);
    }

    private static void faultsOfTokens() {
        faultAt("ss", 0);
        faultAt(" st 1;", 1);
        faultAt("x", 0);
        faultAt("  5", 2);
        faultAt(";", 0);
        faultAt("t5;;", 3);
        faultAt("s s", 2);
        faultAt("s4t", 2);
        faultAt("t01;", 1);
        faultAt("t00;", 1);
        faultAt("t100;", 1);
        faultAt("t4294967297;", 1);
        faultAt("s1 01 0;", 3);
        faultAt("t5,", 2);
        faultAt("T5;", 0);
        faultAt("t5;\t", 3);
        faultAt("t-5;", 1);
        faultAt("t5;x 100", 3);
        faultAt("t5;" + (char) 233, 3);
        faultAt("t5;" + (char) 0, 3);
    }

    private static String filled(String text, String with) {
        return text + with.repeat(120 - text.length());
    }

    private static void fullText() {
        readsAs(filled("", " "), 0);
        readsAs(filled(PIECE, " "), 8);
        readsAs(filled("s5 2 0;".repeat(8) + "t60;".repeat(6) + "n7 4;", " "), 15);
        readsAs(" ".repeat(117) + "t5;", 1);
        faultAt(filled("t5;", "s"), 3);
        faultAt(filled("t", "9"), 1);
        faultAt(filled("t", "0"), 1);
        faultAt(" ".repeat(119) + "t", 120);
        faultAt(" ".repeat(118) + "t5", 120);
        faultAt(filled("t5", " "), 120);
    }

    private static void longestPiece() {
        TriangleRest x = Check.reading("s30 4 1;".repeat(7) + "s30 4 0;n7 29;" + "t60;".repeat(6));
        due("4: the longest piece", x.now(5), 960);
        due("4: its note", x.now(6), 959);
        due("19: its places", x.places(-1), 960);
        due("20: when to listen", x.listen(), 60);
        x.hears(60, 0);
        due("19: its places by the last section", x.places(-1), 120);
        due("19: the first of these", x.places(0), 780);
        due("20: when to listen then", x.listen(), 0);
        due("21: its rests", x.pack(-2), 63);
        due("21: the last thing", x.pack(5), 2);
        due("15: trim(119)", x.trim(119), 127);
        for (int i = 0; i < 9; i++) {
            x.bars(99);
        }
        due("8: bars(69)", x.bars(69), 960);
        due("8: struck", x.now(4), 1);
    }

    private static void pieceForgets() {
        TriangleRest x = Check.reading(PIECE);
        x.bars(22);
        x.slips(2);
        x.waits(5);
        x.cuts(4);
        x.hears(3, 1);
        x.keep(0);
        x.keep(1);
        x.mark(5, 0);
        Check.type(x, "s7 1 2;s2 1 2;");
        due("4: piece() anew", x.piece(), 2);
        long[] nows = {0, 0, 0, 0, 0, 9, 7, 7, 0};
        for (int what = 0; what < nows.length; what++) {
            due("4: now(" + what + ") anew", x.now(what), nows[what]);
        }
        long[] counts = {2, 0, 0, 0, 0};
        for (int what = 0; what < counts.length; what++) {
            due("4: count(" + what + ") anew", x.count(what), counts[what]);
        }
        due("4: back(0) anew", x.back(0), STATE);
        due("4: back(1) anew", x.back(1), STATE);
        due("4: trace() anew", x.trace(), 100001);
    }

    private static void section() {
        TriangleRest x = Check.reading(PIECE);
        long[][] want = {
            {4, 2, 0, 0, 0, 0}, {3, 1, 1, 0, 8, 1}, {5, 1, 2, 1, NONE, 0}, {2, 3, 0, 0, 11, 0}, {6, 1, 3, 0, 17, 1},
        };
        x.bars(8);
        x.cuts(2);
        for (int s = 0; s < want.length; s++) {
            for (int what = 0; what < 6; what++) {
                due("5: section(" + s + ", " + what + ")", x.section(s, what), want[s][what]);
            }
        }
        x.bars(1);
        due("5: section(1, 5), begun", x.section(1, 5), 0);
        for (int s : new int[] {-1, 5, 8, LEAST, MOST}) {
            due("5: section(" + s + ", 0)", x.section(s, 0), BAD);
        }
        for (int what : new int[] {-1, 6, LEAST, MOST}) {
            due("5: section(0, " + what + ")", x.section(0, what), BAD);
        }
    }

    private static void thing() {
        TriangleRest x = Check.reading(PIECE);
        due("6: thing(0)", x.thing(0), 8);
        due("6: thing(1)", x.thing(1), 3);
        for (int t : new int[] {-1, 2, 6, LEAST, MOST}) {
            due("6: thing(" + t + ")", x.thing(t), BAD);
        }
    }

    private static void bar() {
        TriangleRest x = Check.reading(PIECE);
        long[][] want = {{0, 0, 0, 0, 0}, {7, 0, 1, 3, 0}, {8, 1, 0, 0, 1}, {15, 2, 0, 4, 2}, {19, 3, 1, 1, 0}, {27, 4, 0, 5, 3}};
        for (long[] row : want) {
            for (int what = 0; what < 4; what++) {
                due("7: bar(" + row[0] + ", " + what + ")", x.bar((int) row[0], what), row[what + 1]);
            }
        }
        due("7: bar(28, 0)", x.bar(28, 0), NONE);
        due("7: bar(999, 3)", x.bar(999, 3), NONE);
        x.cuts(0);
        due("7: bar(0, 0), 0 is cut", x.bar(0, 0), 1);
        due("7: bar(20, 0), 0 is cut", x.bar(20, 0), NONE);
        for (int b : new int[] {-1, 1000, LEAST, MOST}) {
            due("7: bar(" + b + ", 0)", x.bar(b, 0), BAD);
        }
        for (int what : new int[] {-1, 4, LEAST, MOST}) {
            due("7: bar(0, " + what + ")", x.bar(0, what), BAD);
            due("7: bar(999, " + what + ")", x.bar(999, what), BAD);
        }
        TriangleRest longest = Check.reading("s30 4 3;s30 4 3;s30 4 3;s30 4 3;s30 4 3;s30 4 3;s30 4 3;s30 4 1;");
        due("7: bar(959, 1)", longest.bar(959, 1), 3);
        due("7: bar(960, 1)", longest.bar(960, 1), NONE);
    }

    private static void bars() {
        TriangleRest x = Check.reading("s30 4 0;");
        due("8: bars(99)", x.bars(99), 99);
        for (int n : new int[] {0, -1, 100, LEAST, MOST}) {
            due("8: bars(" + n + ")", x.bars(n), BAD);
        }
        due("8: bars(22) of 21", x.bars(22), STATE);
        due("8: nothing is changed", x.count(3), 1);
        due("8: bars(21) of 21", x.bars(21), 120);
        due("8: bars(1) of 0", x.bars(1), STATE);
        due("8: bars(100) of 0", x.bars(100), BAD);
        due("8: count goes along", x.now(1), 120);
    }

    private static void struck() {
        TriangleRest x = Check.reading(PIECE);
        x.bars(21);
        due("8: struck, the note is the bar", x.now(4), 0);
        x.bars(1);
        due("8: struck, the note is gone by", x.now(4), 1);
        x.slips(1);
        x.bars(3);
        due("8: struck stays", x.now(4), 1);
        TriangleRest slipped = Check.reading(PIECE);
        slipped.slips(1);
        slipped.bars(22);
        due("8: not struck, miscounted", slipped.now(4), 0);
        slipped.slips(-1);
        slipped.bars(3);
        due("8: not struck, put right too late", slipped.now(4), 0);
        TriangleRest right = Check.reading(PIECE);
        right.slips(1);
        right.bars(8);
        right.slips(-1);
        right.bars(19);
        due("8: struck in the middle of many", right.now(4), 1);
    }

    private static void slips() {
        TriangleRest x = Check.reading(PIECE);
        due("9: slips(9)", x.slips(9), 9);
        due("9: slips(-9)", x.slips(-9), 0);
        due("9: slips(-1)", x.slips(-1), -1);
        for (int d : new int[] {0, 10, -10, LEAST, MOST}) {
            due("9: slips(" + d + ")", x.slips(d), NO);
        }
        due("9: now(1)", x.now(1), -1);
        due("9: now(0)", x.now(0), 0);
        due("9: count(3)", x.count(3), 3);
    }

    private static void cue() {
        TriangleRest x = Check.reading("s5 2 0;s4 1 1;s6 1 0;s2 1 0;");
        x.slips(7);
        due("10: cue(), 0 and 14 are as near", x.cue(), 0);
        x.slips(8);
        due("10: cue(), 14 is nearer", x.cue(), 14);
        x.slips(9);
        due("10: cue(), beyond the last one", x.cue(), 20);
        due("10: cue() is known", x.count(3), 6);
        x.bars(5);
        due("10: cue(), the second time", x.cue(), NO);
        due("10: nothing is changed", x.count(3), 7);
        x.bars(5);
        due("10: cue(), another one plays", x.cue(), 10);
        x.cuts(1);
        due("10: cue(), what comes instead", x.cue(), 10);
        x.slips(3);
        due("10: cue(), 10 and 16 are as near", x.cue(), 10);
        x.bars(8);
        due("10: cue() at the end", x.cue(), NO);
        TriangleRest below = Check.reading("s5 1 3;");
        below.slips(-9);
        due("10: cue(), count below 0", below.cue(), 0);
        due("10: cue(), count stays", below.cue(), 0);
        due("10: cue() that changes nothing is known", below.count(3), 3);
    }

    private static void cuts() {
        TriangleRest x = Check.reading(PIECE);
        x.bars(8);
        due("11: cuts(0), begun", x.cuts(0), STATE);
        due("11: cuts(3), the note", x.cuts(3), STATE);
        due("11: cuts(1), just beginning", x.cuts(1), 25);
        due("11: cuts(1) again", x.cuts(1), STATE);
        due("11: cuts(4), behind the note", x.cuts(4), 19);
        due("11: now(3)", x.now(3), 18);
        due("11: now(6)", x.now(6), 18);
        due("11: count(3)", x.count(3), 3);
        for (int s : new int[] {-1, 5, 8, 32, LEAST, MOST}) {
            due("11: cuts(" + s + ")", x.cuts(s), BAD);
        }
        x.bars(1);
        due("11: cuts(2), begun by now", x.cuts(2), STATE);
    }

    private static void waits() {
        TriangleRest x = new TriangleRest();
        for (int i = 1; i <= 10; i++) {
            due("12: waits(99), " + i, x.waits(99), 99L * i);
        }
        due("12: waits(10)", x.waits(10), STATE);
        due("12: waits(9)", x.waits(9), 999);
        due("12: waits(1)", x.waits(1), STATE);
        for (int n : new int[] {0, -1, 100, LEAST, MOST}) {
            due("12: waits(" + n + ")", x.waits(n), BAD);
        }
        due("12: now(2)", x.now(2), 999);
        due("12: now(0)", x.now(0), 0);
    }

    private static void undo() {
        TriangleRest x = Check.reading(PIECE);
        for (int i = 0; i < 13; i++) {
            x.bars(1);
        }
        due("13: ten are known", x.count(3), 10);
        for (int i = 9; i >= 0; i--) {
            due("13: undo()", x.undo(), i);
        }
        due("13: older ones are lost", x.now(0), 3);
        due("13: undo(), none", x.undo(), STATE);
        x.bars(25);
        due("13: bars of one call together", x.undo(), 0);
        due("13: now(0)", x.now(0), 3);
    }

    private static void undoRestoresAll() {
        TriangleRest x = Check.reading(PIECE);
        x.slips(2);
        x.waits(7);
        x.cuts(1);
        x.cue();
        x.bars(19);
        due("13: struck", x.now(4), 1);
        long[][] ahead = {{0, 0, 7, 2, 0}, {0, 2, 7, 2, 0}, {0, 2, 7, 0, 0}, {0, 2, 0, 0, 0}, {0, 0, 0, 0, 0}};
        for (int i = 0; i < ahead.length; i++) {
            due("13: undo() " + i, x.undo(), 4 - i);
            for (int what = 0; what < 5; what++) {
                due("13: now(" + what + ") after undo " + i, x.now(what), ahead[i][what]);
            }
        }
    }

    private static void now() {
        TriangleRest x = Check.reading(PIECE);
        x.bars(9);
        x.slips(-3);
        x.waits(4);
        x.cuts(4);
        long[] want = {9, 6, 4, 16, 0, 22, 21, 12, 16};
        for (int what = 0; what < want.length; what++) {
            due("14: now(" + what + ")", x.now(what), want[what]);
        }
        x.bars(13);
        due("14: left, gone by", x.now(7), -1);
        due("14: soonest, gone by", x.now(8), 21);
        for (int what : new int[] {-1, 9, LEAST, MOST}) {
            due("14: now(" + what + ")", x.now(what), NO);
        }
    }

    private static void trim() {
        TriangleRest x = Check.reading("s2 1 0;s3 1 0;s5 1 0;s5 1 0;s9 1 0;s4 1 0;n4 0;");
        long[][] want = {{15, 0}, {13, 1}, {12, 2}, {10, 4}, {8, 5}, {5, 12}, {0, 15}, {14, NONE}, {16, NONE}, {999, NONE}};
        for (long[] row : want) {
            due("15: trim(" + row[0] + ")", x.trim((int) row[0]), row[1]);
        }
        due("15: nothing is changed", x.now(3), 0);
        x.bars(2);
        x.cuts(1);
        due("15: trim(12), as it is", x.trim(12), 0);
        due("15: trim(10), begun", x.trim(10), NONE);
        due("15: trim(7)", x.trim(7), 4);
        for (int n : new int[] {-1, 1000, LEAST, MOST}) {
            due("15: trim(" + n + ")", x.trim(n), BAD);
            due("15: trim(" + n + "), no sections", new TriangleRest().trim(n), BAD);
        }
    }

    private static void fraction(TriangleRest x, int chance, int n, long upper, long lower) {
        due("16: odds(" + chance + ", " + n + ", 0)", x.odds(chance, n, 0), upper);
        due("16: odds(" + chance + ", " + n + ", 1)", x.odds(chance, n, 1), lower);
    }

    private static void odds() {
        TriangleRest x = Check.reading("s4 1 0;s6 1 0;s9 1 0;s5 1 0;n2 1;");
        fraction(x, 5, 11, 1, 1);
        fraction(x, 5, 10, 3, 4);
        fraction(x, 3, 7, 51, 100);
        fraction(x, 3, 6, 3, 10);
        fraction(x, 3, 4, 9, 100);
        fraction(x, 3, 0, 0, 1);
        fraction(x, 0, 11, 1, 1);
        fraction(x, 0, 10, 0, 1);
        fraction(x, 10, 1, 1, 1);
        fraction(x, 10, 0, 0, 1);
        fraction(x, 10, 999, 1, 1);
        x.bars(1);
        fraction(x, 2, 5, 1, 5);
        x.cuts(1);
        fraction(x, 2, 5, 1, 1);
        fraction(x, 2, 4, 0, 1);
        TriangleRest fine = Check.reading("s1 1 0;s1 1 0;s1 1 0;s1 1 0;s1 1 0;s1 1 0;s1 1 0;s1 1 0;");
        fraction(fine, 3, 0, 2187, 10000000);
        fraction(fine, 3, 6, 10000000 - 823543, 10000000);
        for (int bad : new int[] {-1, 11, LEAST, MOST}) {
            due("16: odds(" + bad + ", 0, 0)", x.odds(bad, 0, 0), BAD);
            due("16: odds(0, 0, " + bad + ")", x.odds(0, 0, bad), BAD);
        }
        due("16: odds(0, 0, 2)", x.odds(0, 0, 2), BAD);
        due("16: odds(0, -1, 0)", x.odds(0, -1, 0), BAD);
        due("16: odds(0, 1000, 0)", x.odds(0, 1000, 0), BAD);
        fraction(new TriangleRest(), 4, 999, 0, 1);
        due("16: odds(11, 0, 0), no sections", new TriangleRest().odds(11, 0, 0), BAD);
    }

    private static void hears() {
        TriangleRest x = new TriangleRest();
        due("17: hears(0, 0)", x.hears(0, 0), 1);
        due("17: hears(60, 3)", x.hears(60, 3), 2);
        for (int bad : new int[] {-1, 61, LEAST, MOST}) {
            due("17: hears(" + bad + ", 0)", x.hears(bad, 0), BAD);
            due("17: hears(0, " + bad + ")", x.hears(0, bad), BAD);
        }
        due("17: hears(0, 4)", x.hears(0, 4), BAD);
        due("17: hears(0, 0) again", x.hears(0, 0), 3);
        due("17: hears(1, 1)", x.hears(1, 1), 4);
        due("17: hears(2, 2), four are there", x.hears(2, 2), FULL);
        due("17: hears(2, 4), four are there", x.hears(2, 4), BAD);
        due("17: count(2)", x.count(2), 4);
        due("17: not to be undone", x.count(3), 0);
    }

    private static void forget() {
        TriangleRest x = Check.reading(PIECE);
        x.hears(0, 3);
        x.hears(1, 3);
        due("18: forget()", x.forget(), 2);
        due("18: forget() again", x.forget(), 0);
        due("18: places(-1)", x.places(-1), 28);
        due("18: hears(0, 3) then", x.hears(0, 3), 1);
        due("18: places(-1) then", x.places(-1), 6);
    }

    private static void places() {
        TriangleRest x = Check.reading(PIECE);
        due("19: places(-1), nothing heard", x.places(-1), 28);
        due("19: places(9), nothing heard", x.places(9), 9);
        x.hears(0, 0);
        due("19: places(-1)", x.places(-1), 14);
        due("19: places(7)", x.places(7), 7);
        due("19: places(8)", x.places(8), 16);
        due("19: places(9)", x.places(9), 17);
        x.hears(2, 1);
        due("19: places(-1), then 1", x.places(-1), 2);
        due("19: places(0), then 1", x.places(0), 6);
        due("19: places(1), then 1", x.places(1), 7);
        due("19: places(2), then 1", x.places(2), NONE);
        x.cuts(1);
        due("19: places(-1), 1 is cut", x.places(-1), 0);
        due("19: places(0), 1 is cut", x.places(0), NONE);
        x.undo();
        x.forget();
        x.hears(5, 3);
        due("19: places(-1), within the piece", x.places(-1), 6);
        due("19: places(5), within the piece", x.places(5), 22);
        for (int k : new int[] {-2, 10, LEAST, MOST}) {
            due("19: places(" + k + ")", x.places(k), BAD);
        }
    }

    private static void listen() {
        TriangleRest halves = Check.reading("s4 1 0;s4 1 1;");
        due("20: listen(), halves now", halves.listen(), 0);
        halves.hears(0, 0);
        due("20: listen(), halves of 4 places", halves.listen(), 2);
        TriangleRest over = Check.reading("s6 1 2;");
        due("20: listen(), by the end", over.listen(), 3);
        over.hears(5, 2);
        due("20: listen(), one place", over.listen(), 0);
        over.hears(6, 2);
        due("20: listen(), no place", over.listen(), NONE);
        TriangleRest same = Check.reading("s30 4 1;s30 4 1;");
        due("20: listen(), none is half", same.listen(), 60);
        same.hears(60, 1);
        due("20: listen(), none tells more", same.listen(), 0);
        due("20: listen(), no sections", new TriangleRest().listen(), NONE);
    }

    private static void packs(String text, int cut, long... want) {
        TriangleRest x = Check.reading(text);
        for (int s = 0; s < 8; s++) {
            if ((cut >> s & 1) == 1) {
                x.cuts(s);
            }
        }
        for (int t = -2; t < want.length - 2; t++) {
            due("21: pack(" + t + ") of " + text, x.pack(t), want[t + 2]);
        }
        due("21: pack beyond the things of " + text, x.pack(want.length - 2), BAD);
    }

    private static void pack() {
        packs("s5 2 0;", 0, 0, 0);
        packs("t5;", 0, 0, 0, NONE);
        packs("s5 2 0;t10;", 0, 1, 1, 0);
        packs("s5 2 0;t11;", 0, 0, 0, NONE);
        packs("s5 2 2;t1;", 0, 0, 0, NONE);
        packs("s5 2 2;s1 1 3;t1;t1;", 0, 1, 1, 1, NONE);
        packs("s9 1 0;s5 1 1;s1 1 0;t5;", 1, 1, 1, 1);
        packs("s9 1 0;t5;t4;t9;t3;t1;", 0, 25, 3, 0, NONE, NONE, 0, 0);
        packs("s9 1 0;s5 1 1;t4;t5;t5;", 0, 7, 3, 0, 0, 1);
        packs("s9 1 0;s6 1 1;t6;t5;t4;", 0, 7, 3, 1, 0, 0);
        packs("s7 1 0;s7 1 0;s7 1 0;t3;t3;t3;t4;t4;t4;", 0, 63, 6, 0, 1, 2, 0, 1, 2);
        packs("s6 1 0;s6 1 0;t3;t3;t2;t2;t2;t1;", 0, 31, 5, 0, 0, 1, 1, 1, NONE);
        for (int t : new int[] {-3, 2, LEAST, MOST}) {
            due("21: pack(" + t + ")", Check.reading(PIECE).pack(t), BAD);
        }
        TriangleRest x = Check.reading(PIECE);
        x.bars(28);
        due("21: pack(0), a rest that is over", x.pack(0), 0);
    }

    private static void mark() {
        TriangleRest x = Check.reading(PIECE);
        x.bars(5);
        long[] want = {6, 7, 3, 14, 7, 11};
        long[] bodies = {1, 11, 101, 1011, 10101, 100001};
        long trace = 0;
        for (int kind = 0; kind < want.length; kind++) {
            due("22: mark(" + kind + ", 4)", x.mark(kind, 4), want[kind]);
            trace += bodies[kind];
            due("26: trace() after mark(" + kind + ", 4)", x.trace(), trace);
        }
        for (int bad : new int[] {-1, 6, LEAST, MOST}) {
            due("22: mark(" + bad + ", 0)", x.mark(bad, 0), NO);
            due("22: mark(0, " + bad + ")", x.mark(0, bad), NO);
        }
        due("22: mark(0, 5)", x.mark(0, 5), NO);
        due("26: trace() after what was refused", x.trace(), trace);
        TriangleRest below = Check.reading("s1 1 3;");
        due("22: mark(2, 0) below 0", below.mark(2, 0), -2);
        TriangleRest cut = Check.reading(PIECE);
        cut.cuts(2);
        due("22: mark(3, 2) of what is cut", cut.mark(3, 2), 12);
        cut.undo();
        due("26: trace() is not undone", cut.trace(), 1011);
    }

    private static void images() {
        TriangleRest x = Check.reading(PIECE);
        due("24: back(0), none was kept", x.back(0), STATE);
        x.bars(8);
        x.slips(2);
        x.waits(3);
        x.cuts(1);
        due("23: keep(0)", x.keep(0), 8);
        due("24: back(1), none was kept", x.back(1), STATE);
        x.slips(-2);
        x.bars(15);
        x.undo();
        x.bars(14);
        x.waits(1);
        x.hears(0, 1);
        x.mark(0, 0);
        due("23: keep(1)", x.keep(1), 22);
        for (int round = 0; round < 2; round++) {
            due("24: back(0)", x.back(0), 8);
            long[] want = {8, 10, 3, 2, 0};
            for (int what = 0; what < want.length; what++) {
                due("24: now(" + what + ")", x.now(what), want[what]);
            }
            due("24: what may be undone", x.count(3), 4);
            due("24: what was heard stays", x.count(2), 1);
            due("24: the trace stays", x.trace(), 1);
            due("24: undo()", x.undo(), 3);
            due("24: now(3) then", x.now(3), 0);
            due("24: back(1)", x.back(1), 22);
            due("24: struck again", x.now(4), 1);
            due("24: undone again", x.count(3), 7);
        }
        for (int image : new int[] {-1, 2, LEAST, MOST}) {
            due("23: keep(" + image + ")", x.keep(image), BAD);
            due("24: back(" + image + ")", x.back(image), BAD);
        }
    }

    private static void count() {
        TriangleRest x = Check.reading(PIECE);
        x.hears(1, 1);
        x.waits(1);
        x.slips(1);
        Check.type(x, "abcd");
        long[] want = {5, 2, 1, 2, 4};
        for (int what = 0; what < want.length; what++) {
            due("25: count(" + what + ")", x.count(what), want[what]);
        }
        for (int what : new int[] {-1, 5, LEAST, MOST}) {
            due("25: count(" + what + ")", x.count(what), BAD);
        }
    }
}
