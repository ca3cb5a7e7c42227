/** Promises 8 to 14, 23 and 24: each sentence about what is done that names a boundary case, ahead of its test. */
public final class CourseEdgesTest {
    private static final int BAD = TriangleRest.BAD;
    private static final int STATE = TriangleRest.STATE;
    private static final int NONE = TriangleRest.NONE;
    private static final int NO = TriangleRest.NO;

    /** First bars: 0 and 14 and 20 of horns, 10 of strings; section 0 is played twice; 22 bars. */
    private static final String HORNS = "s5 2 0;s4 1 1;s6 1 0;s2 1 0;";

    private static final Check CHECK = new Check();

    public static void main(String[] args) {
        newObject();
        barsOfOneCall();
        noMoreThanThereAre();
        fewerBarsByCuts();
        struckAtItsEdges();
        struckOnlyIfCounted();
        struckFirstAndLast();
        struckStays();
        slipsWithin();
        countHasNoBounds();
        cueAtFirstBarsOnly();
        cueNearest();
        cueOfThatWho();
        cueOfWhatIsCut();
        cutsAtFirstBars();
        cutsOfTheNote();
        cutsOfAll();
        cutsOneBehindAnother();
        waitsWithin();
        waitsTogether();
        tenAreUndone();
        oneStepEach();
        noSteps();
        undoneAndDoneAnew();
        left();
        soonest();
        noSections();
        images();
        imagesKeepWhatMayBeUndone();
        imagesKeepWhetherItIsStruck();
        CHECK.end();
    }

    private static void due(String call, long got, long want) {
        CHECK.due(call, got, want);
    }

    private static TriangleRest at(String text, int bar) {
        TriangleRest x = Check.reading(text);
        for (int left = bar; left > 0; left -= 99) {
            x.bars(Math.min(left, 99));
        }
        due("at bar " + bar + " of " + text, x.now(0), bar);
        return x;
    }

    private static TriangleRest counting(String text, int count) {
        TriangleRest x = Check.reading(text);
        for (int left = Math.abs(count); left > 0; left -= 9) {
            x.slips(Integer.signum(count) * Math.min(left, 9));
        }
        due("counting " + count, x.now(1), count);
        return x;
    }

    /** "At first none is CUT, the BAR is 0, COUNT is 0, WAITS are 0, the note is not STRUCK." */
    private static void newObject() {
        for (int what = 0; what < 5; what++) {
            due("a new object, now(" + what + ")", new TriangleRest().now(what), 0);
            due("a piece just read, now(" + what + ")", Check.reading(HORNS).now(what), 0);
        }
        for (int what = 0; what < 5; what++) {
            due("a new object, count(" + what + ")", new TriangleRest().count(what), 0);
        }
        due("a new object, trace()", new TriangleRest().trace(), 0);
    }

    /** "GONE by: n BARS (1 .. 99 ..): BAR is n more, so is COUNT." */
    private static void barsOfOneCall() {
        for (int n = 1; n <= 99; n++) {
            TriangleRest x = counting("s30 4 0;", -4);
            due("bars(" + n + ")", x.bars(n), n);
            due("COUNT after bars(" + n + ")", x.now(1), n - 4);
        }
        due("bars(0)", Check.reading("s30 4 0;").bars(0), BAD);
        due("bars(100)", Check.reading("s30 4 0;").bars(100), BAD);
        due("bars(-1)", at("s30 4 0;", 50).bars(-1), BAD);
    }

    /** "(.. no more than there are)"; bars: "STATE: there are not so many." */
    private static void noMoreThanThereAre() {
        due("bars(1) of 1", Check.reading("s1 1 0;").bars(1), 1);
        due("bars(2) of 1", Check.reading("s1 1 0;").bars(2), STATE);
        due("bars(1) of 0", at("s1 1 0;", 1).bars(1), STATE);
        due("bars(99) of 99", Check.reading("s30 3 0;s9 1 0;").bars(99), 99);
        due("bars(99) of 98", Check.reading("s30 3 0;s8 1 0;").bars(99), STATE);
        due("bars(98) of 98", Check.reading("s30 3 0;s8 1 0;").bars(98), 98);
        TriangleRest x = at("s30 4 0;".repeat(8), 957);
        due("bars(4) of 3", x.bars(4), STATE);
        due("bars(3) of 3", x.bars(3), 960);
        due("bars(1) of 0, the longest", x.bars(1), STATE);
        due("bars(1), no sections", new TriangleRest().bars(1), STATE);
    }

    private static void fewerBarsByCuts() {
        TriangleRest x = Check.reading("s5 1 0;s5 1 0;s5 1 0;");
        due("cuts(1)", x.cuts(1), 10);
        due("bars(11) of 10", x.bars(11), STATE);
        due("bars(10) of 10", x.bars(10), 10);
        x.undo();
        x.undo();
        due("bars(15), the cut undone", x.bars(15), 15);
    }

    private static void strikes(int from, int n, int want) {
        TriangleRest x = at("s5 2 0;s4 1 1;n0 2;", from);
        x.bars(n);
        due("STRUCK, " + n + " bars from " + from + ", the note at 7", x.now(4), want);
    }

    /** "If the BAR of the NOTE is gone by (BAR was it or ahead of it, is behind it now) .., it is STRUCK." */
    private static void struckAtItsEdges() {
        strikes(0, 6, 0);
        strikes(0, 7, 0);
        strikes(0, 8, 1);
        strikes(0, 14, 1);
        strikes(6, 1, 0);
        strikes(6, 2, 1);
        strikes(7, 1, 1);
        strikes(7, 7, 1);
        TriangleRest x = counting("s5 2 0;s4 1 1;n0 2;", 1);
        x.bars(8);
        x.slips(-1);
        due("COUNT is BAR behind it", x.now(1) - x.now(0), 0);
        x.bars(1);
        due("STRUCK, BAR was behind it", x.now(4), 0);
    }

    /** "and COUNT was BAR then" */
    private static void struckOnlyIfCounted() {
        for (int off = -9; off <= 9; off++) {
            TriangleRest x = counting("s5 2 0;s4 1 1;n0 2;", off);
            x.bars(8);
            due("STRUCK, COUNT is off by " + off, x.now(4), off == 0 ? 1 : 0);
        }
        TriangleRest x = counting("s5 2 0;s4 1 1;n0 2;", 3);
        x.bars(7);
        x.slips(-3);
        x.bars(1);
        due("STRUCK, put right at the last bar", x.now(4), 1);
        TriangleRest wrong = at("s5 2 0;s4 1 1;n0 2;", 7);
        wrong.slips(1);
        wrong.bars(1);
        due("STRUCK, wrong at the last bar", wrong.now(4), 0);
        TriangleRest cued = counting("s5 1 1;s5 1 0;", 2);
        cued.bars(5);
        due("cue at the note", cued.cue(), 5);
        cued.bars(1);
        due("STRUCK, put right by a cue", cued.now(4), 1);
    }

    private static void struckFirstAndLast() {
        TriangleRest first = Check.reading("s1 1 0;");
        first.bars(1);
        due("STRUCK, the only bar", first.now(4), 1);
        TriangleRest last = at("s3 4 0;n0 2;", 11);
        due("STRUCK, ahead of the last bar", last.now(4), 0);
        last.bars(1);
        due("STRUCK, the last bar", last.now(4), 1);
        TriangleRest earlier = at("s3 4 0;n0 2;", 9);
        due("STRUCK, at its bar an earlier time", earlier.now(4), 0);
        TriangleRest sooner = Check.reading("s5 1 0;s5 1 0;");
        sooner.cuts(0);
        sooner.bars(1);
        due("STRUCK, sooner by a cut", sooner.now(4), 1);
    }

    private static void struckStays() {
        TriangleRest x = at("s5 2 0;s4 1 1;n0 2;", 8);
        x.slips(5);
        x.bars(6);
        due("STRUCK stays", x.now(4), 1);
        x.undo();
        x.undo();
        due("STRUCK stays, others undone", x.now(4), 1);
        x.undo();
        due("STRUCK undone", x.now(4), 0);
    }

    /** "SLIPPED: COUNT is d (-9 .. 9, not 0) more." */
    private static void slipsWithin() {
        for (int d = -20; d <= 20; d++) {
            boolean fine = d != 0 && d >= -9 && d <= 9;
            TriangleRest x = Check.reading(HORNS);
            due("slips(" + d + ")", x.slips(d), fine ? d : NO);
            due("COUNT after slips(" + d + ")", x.now(1), fine ? d : 0);
            due("BAR after slips(" + d + ")", x.now(0), 0);
        }
        due("slips(9), no sections", new TriangleRest().slips(9), 9);
    }

    private static void countHasNoBounds() {
        TriangleRest x = new TriangleRest();
        TriangleRest y = new TriangleRest();
        for (int i = 1; i <= 400; i++) {
            due("slips(9), " + i, x.slips(9), 9 * i);
            due("slips(-9), " + i, y.slips(-9), -9 * i);
        }
    }

    /** "CUE: if BAR is the first one of a SECTION (the first time)"; cue: "NO: BAR is no such one." */
    private static void cueAtFirstBarsOnly() {
        for (int bar = 0; bar <= 22; bar++) {
            boolean first = bar == 0 || bar == 10 || bar == 14 || bar == 20;
            due("cue() at " + bar, at(HORNS, bar).cue(), first ? bar : NO);
        }
        due("cue() at 0 of single bars", at("s1 2 0;s1 1 0;", 0).cue(), 0);
        due("cue() at 1, the second time", at("s1 2 0;s1 1 0;", 1).cue(), NO);
        due("cue() at 2 of single bars", at("s1 2 0;s1 1 0;", 2).cue(), 2);
        due("cue() at the end of single bars", at("s1 2 0;s1 1 0;", 3).cue(), NO);
        due("cue(), no sections", new TriangleRest().cue(), NO);
        TriangleRest cut = at("s5 1 0;s5 1 1;n0 0;", 5);
        cut.cuts(1);
        due("cue(), the section is cut, it is over", cut.cue(), NO);
    }

    /** "COUNT is the one of those first BARS .. that is nearest to COUNT, of two the lower." */
    private static void cueNearest() {
        long[][] want = {{-200, 0}, {-1, 0}, {0, 0}, {6, 0}, {7, 0}, {8, 14}, {13, 14}, {14, 14}, {15, 14}, {16, 14},
            {17, 14}, {18, 20}, {19, 20}, {20, 20}, {21, 20}, {22, 20}, {200, 20}};
        for (long[] row : want) {
            due("cue() counting " + row[0], counting(HORNS, (int) row[0]).cue(), row[1]);
        }
        TriangleRest x = counting(HORNS, 8);
        x.cue();
        due("COUNT after cue()", x.now(1), 14);
        due("BAR after cue()", x.now(0), 0);
    }

    /** ".. of SECTIONS of that WHO .." */
    private static void cueOfThatWho() {
        due("cue(), 10 is of others", counting(HORNS, 10).cue(), 14);
        TriangleRest x = counting(HORNS, 9);
        x.bars(10);
        due("cue() of the only strings", x.cue(), 10);
        for (int who = 0; who < 4; who++) {
            TriangleRest y = counting("s3 1 " + who + ";s3 1 " + (who + 1) % 4 + ";s3 1 " + who + ";", 3);
            due("cue() of " + who + ", 0 and 6 as near", y.cue(), 0);
            y.slips(4);
            due("cue() of " + who + ", 6 nearer", y.cue(), 6);
        }
    }

    private static void cueOfWhatIsCut() {
        TriangleRest x = counting("s5 1 0;s4 1 1;s6 1 0;n0 0;", 9);
        due("cue(), not cut yet", x.cue(), 9);
        x.cuts(2);
        due("cue(), cut", x.cue(), 0);
        TriangleRest moved = counting("s5 1 0;s4 1 1;s6 1 0;", 9);
        moved.cuts(1);
        due("cue(), nearer by a cut", moved.cue(), 5);
        TriangleRest first = Check.reading("s5 1 0;s4 1 1;s6 1 0;");
        first.cuts(0);
        due("cue() of what begins now", first.cue(), 0);
        first.slips(9);
        due("cue(), 4 is of others", first.cue(), 0);
    }

    /** "CUT: a SECTION that has not begun (its first BAR is BAR or later) .." */
    private static void cutsAtFirstBars() {
        String three = "s4 2 0;s3 1 1;s2 1 2;n2 0;";
        due("cuts(0) at 0", at(three, 0).cuts(0), 5);
        due("cuts(0) at 1", at(three, 1).cuts(0), STATE);
        due("cuts(0) at 4, the second time", at(three, 4).cuts(0), STATE);
        due("cuts(1) at 7", at(three, 7).cuts(1), 10);
        due("cuts(1) at 8", at(three, 8).cuts(1), 10);
        due("cuts(1) at 9", at(three, 9).cuts(1), STATE);
        due("cuts(1) at 10", at(three, 10).cuts(1), STATE);
        due("cuts(1) at 11", at(three, 11).cuts(1), STATE);
        due("cuts(1) at the end", at(three, 13).cuts(1), STATE);
        due("section(1, 5) at 8", at(three, 8).section(1, 5), 1);
        due("section(1, 5) at 9", at(three, 9).section(1, 5), 0);
    }

    /** ".. and has not the NOTE is left out." */
    private static void cutsOfTheNote() {
        due("cuts(1), the note in the last", Check.reading("s4 1 0;s3 1 1;").cuts(1), STATE);
        due("cuts(0), the note in the last", Check.reading("s4 1 0;s3 1 1;").cuts(0), 3);
        due("cuts(0), the note in the first", Check.reading("s4 1 0;s3 1 1;n0 3;").cuts(0), STATE);
        due("cuts(1), the note in the first", Check.reading("s4 1 0;s3 1 1;n0 3;").cuts(1), 4);
        due("cuts(0), the only one", Check.reading("s4 1 0;").cuts(0), STATE);
        due("cuts(1), behind the note that is gone by", at("s4 1 0;s3 1 1;n0 0;", 4).cuts(1), 4);
    }

    private static void cutsOfAll() {
        TriangleRest x = Check.reading("s30 4 0;".repeat(8));
        int bits = 0;
        for (int s = 0; s < 7; s++) {
            due("cuts(" + s + ")", x.cuts(s), 120 * (7 - s));
            due("cuts(" + s + ") again", x.cuts(s), STATE);
            due("section(" + s + ", 4), cut", x.section(s, 4), NONE);
            due("section(" + s + ", 5), cut", x.section(s, 5), 0);
            bits |= 1 << s;
            due("now(3)", x.now(3), bits);
        }
        due("cuts(7), the note", x.cuts(7), STATE);
        due("cuts(8)", x.cuts(8), BAD);
        due("cuts(-1)", x.cuts(-1), BAD);
        due("NOTE then", x.now(6), 90);
    }

    private static void cutsOneBehindAnother() {
        TriangleRest x = at("s4 1 0;s3 1 1;s2 1 2;s5 1 3;", 4);
        due("cuts(1), beginning now", x.cuts(1), 11);
        due("cuts(2), beginning now instead", x.cuts(2), 9);
        due("BAR stays", x.now(0), 4);
        due("bar(4, 0) then", x.bar(4, 0), 3);
        x.undo();
        due("cuts(2) undone", x.section(2, 4), 4);
    }

    /** "WAITED: n minutes (1 .. 99 ..)" */
    private static void waitsWithin() {
        for (int n = -5; n <= 110; n++) {
            boolean fine = n >= 1 && n <= 99;
            TriangleRest x = new TriangleRest();
            due("waits(" + n + ")", x.waits(n), fine ? n : BAD);
            due("WAITS after waits(" + n + ")", x.now(2), fine ? n : 0);
        }
    }

    /** "(.. 999 at most, together)"; waits: "STATE: it would be above 999." */
    private static void waitsTogether() {
        TriangleRest x = new TriangleRest();
        for (int i = 1; i <= 10; i++) {
            due("waits(99), " + i, x.waits(99), 99 * i);
        }
        due("waits(99) at 990", x.waits(99), STATE);
        due("waits(10) at 990", x.waits(10), STATE);
        due("waits(8) at 990", x.waits(8), 998);
        due("waits(2) at 998", x.waits(2), STATE);
        due("waits(1) at 998", x.waits(1), 999);
        due("waits(1) at 999", x.waits(1), STATE);
        due("waits(100) at 999", x.waits(100), BAD);
        due("waits(0) at 999", x.waits(0), BAD);
        x.undo();
        x.undo();
        due("waits(9) at 990", x.waits(9), 999);
        due("BAR does not wait", x.now(0), 0);
    }

    /** "UNDONE: .. (10 are known, older ones are lost)"; undo: "how many more may be. STATE: none." */
    private static void tenAreUndone() {
        for (int steps = 0; steps <= 25; steps++) {
            TriangleRest x = Check.reading("s30 4 0;");
            for (int i = 0; i < steps; i++) {
                x.bars(1);
            }
            int known = Math.min(steps, 10);
            due("known of " + steps, x.count(3), known);
            for (int more = known - 1; more >= 0; more--) {
                due("undo() of " + steps, x.undo(), more);
                due("BAR then", x.now(0), steps - known + more);
            }
            due("undo(), none of " + steps + " more", x.undo(), STATE);
            due("BAR stays", x.now(0), steps - known);
        }
    }

    /** "the latest GONE by (BARS of one call together), SLIPPED, CUE, CUT, WAITED: all is as ahead of it." */
    private static void oneStepEach() {
        TriangleRest x = Check.reading("s5 1 0;s4 1 1;s6 1 0;");
        x.slips(9);
        x.cue();
        x.cuts(1);
        x.waits(99);
        x.bars(11);
        long[][] ahead = {{11, 20, 99, 2, 0}, {0, 9, 99, 2, 0}, {0, 9, 0, 2, 0}, {0, 9, 0, 0, 0}, {0, 9, 0, 0, 0},
            {0, 0, 0, 0, 0}};
        for (int i = 0; i < ahead.length; i++) {
            due("known, " + i + " undone", x.count(3), 5 - i);
            for (int what = 0; what < 5; what++) {
                due("now(" + what + "), " + i + " undone", x.now(what), ahead[i][what]);
            }
            due("undo() " + i, x.undo(), i < 5 ? 4 - i : STATE);
        }
    }

    private static void noSteps() {
        TriangleRest x = Check.reading("s5 1 0;s4 1 1;s6 1 0;t5;");
        x.type('t');
        x.piece();
        x.clear();
        x.hears(1, 1);
        x.forget();
        x.mark(5, 0);
        x.keep(0);
        x.back(0);
        x.bars(99);
        x.bars(0);
        x.slips(0);
        x.cuts(2);
        x.cuts(3);
        x.waits(0);
        x.back(1);
        due("none of these may be undone", x.count(3), 0);
        due("undo() of these", x.undo(), STATE);
    }

    private static void undoneAndDoneAnew() {
        TriangleRest x = Check.reading("s30 4 0;");
        for (int i = 0; i < 12; i++) {
            x.bars(2);
        }
        due("undo()", x.undo(), 9);
        due("undo() again", x.undo(), 8);
        x.slips(3);
        due("known again", x.count(3), 9);
        x.waits(1);
        x.waits(1);
        due("known, ten again", x.count(3), 10);
        for (int more = 9; more >= 0; more--) {
            due("undo()", x.undo(), more);
        }
        due("BAR, the oldest that is known", x.now(0), 6);
        due("COUNT, the oldest that is known", x.now(1), 6);
    }

    /** "LEFT: .. (0, if it is BAR; less than 0, if it is gone by)" */
    private static void left() {
        String piece = "s5 2 0;s4 1 1;n0 2;";
        long[][] want = {{0, 7}, {6, 1}, {7, 0}, {8, -1}, {14, -7}};
        for (long[] row : want) {
            due("LEFT at " + row[0], at(piece, (int) row[0]).now(7), row[1]);
        }
        due("LEFT at the end of the longest", at("s30 4 0;".repeat(8) + "n0 0;", 960).now(7), 90 - 960);
        TriangleRest x = Check.reading("s5 2 0;s4 1 1;");
        x.cuts(0);
        due("LEFT, the others cut", x.now(7), 0);
    }

    /** "SOONEST: the NOTE's BAR, were all CUT that can be." */
    private static void soonest() {
        String piece = "s4 1 0;s3 1 1;s6 1 2;s5 1 3;n2 5;";
        long[][] want = {{0, 5}, {1, 9}, {4, 9}, {5, 12}, {7, 12}, {18, 12}};
        for (long[] row : want) {
            due("SOONEST at " + row[0], at(piece, (int) row[0]).now(8), row[1]);
        }
        TriangleRest x = Check.reading(piece);
        x.cuts(1);
        due("SOONEST, one is cut", x.now(8), 5);
        x.bars(1);
        due("SOONEST, one is cut, one begun", x.now(8), 9);
        due("SOONEST, nothing can be cut", Check.reading("s4 2 0;").now(8), 4);
    }

    /** now: "(NONE: no SECTIONS)", "(NO: no SECTIONS)" */
    private static void noSections() {
        TriangleRest x = Check.reading("t5;");
        x.slips(4);
        x.waits(6);
        long[] want = {0, 4, 6, 0, 0, 0, NONE, NO, NONE};
        for (int what = 0; what < want.length; what++) {
            due("now(" + what + "), no sections", x.now(what), want[what]);
        }
        due("now(9), no sections", x.now(9), NO);
        due("now(-1), no sections", x.now(-1), NO);
    }

    /** "IMAGES 0, 1 keep NOW (..); nothing else."; keep: "the BAR"; back: "STATE: none was kept." */
    private static void images() {
        TriangleRest x = at("s5 1 0;s4 1 1;s6 1 0;n0 1;t3;", 2);
        due("back(0), none", x.back(0), STATE);
        due("keep(0)", x.keep(0), 2);
        due("back(1), none", x.back(1), STATE);
        due("keep(1)", x.keep(1), 2);
        due("keep(2)", x.keep(2), BAD);
        due("back(-1)", x.back(-1), BAD);
        x.cuts(1);
        x.slips(5);
        x.waits(8);
        x.bars(1);
        due("keep(0) again", x.keep(0), 3);
        due("back(1)", x.back(1), 2);
        long[] first = {2, 2, 0, 0, 1};
        long[] second = {3, 8, 8, 2, 1};
        for (int what = 0; what < 5; what++) {
            due("now(" + what + ") of image 1", x.now(what), first[what]);
        }
        x.hears(0, 1);
        x.mark(0, 0);
        x.type('t');
        due("back(0)", x.back(0), 3);
        for (int what = 0; what < 5; what++) {
            due("now(" + what + ") of image 0", x.now(what), second[what]);
        }
        due("HEARD is not kept", x.count(2), 1);
        due("THE TRACE is not kept", x.trace(), 1);
        due("THE TEXT is not kept", x.count(4), 1);
        due("back(1) once more", x.back(1), 2);
        due("back(1) and again", x.back(1), 2);
        TriangleRest y = new TriangleRest();
        due("keep(0), no sections", y.keep(0), 0);
        y.slips(3);
        due("back(0), no sections", y.back(0), 0);
        due("COUNT is back", y.now(1), 0);
    }

    private static void imagesKeepWhatMayBeUndone() {
        TriangleRest x = Check.reading("s30 4 0;");
        x.keep(1);
        for (int i = 0; i < 12; i++) {
            x.bars(1);
        }
        x.keep(0);
        for (int i = 0; i < 12; i++) {
            x.undo();
        }
        x.slips(1);
        due("back(0)", x.back(0), 12);
        due("ten may be undone again", x.count(3), 10);
        x.waits(5);
        for (int more = 9; more >= 0; more--) {
            due("undo()", x.undo(), more);
        }
        due("BAR, the eleventh is lost", x.now(0), 3);
        due("back(0) again", x.back(0), 12);
        due("undo() of the image", x.undo(), 9);
        due("BAR of the image, undone", x.now(0), 11);
        due("back(1)", x.back(1), 0);
        due("undo(), the image had none", x.undo(), STATE);
    }

    private static void imagesKeepWhetherItIsStruck() {
        TriangleRest x = Check.reading("s1 2 0;");
        x.keep(0);
        x.bars(2);
        due("STRUCK", x.now(4), 1);
        x.keep(1);
        x.back(0);
        due("STRUCK, back ahead of it", x.now(4), 0);
        x.back(1);
        due("STRUCK, back behind it", x.now(4), 1);
        x.undo();
        due("STRUCK, back behind it and undone", x.now(4), 0);
    }
}
