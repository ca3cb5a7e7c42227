/** Promises 5 to 7, 15 to 22, 25, 26: each sentence about a question that names a boundary case, ahead of its test. */
public final class QuestionEdgesTest {
    private static final int BAD = TriangleRest.BAD;
    private static final int FULL = TriangleRest.FULL;
    private static final int NONE = TriangleRest.NONE;
    private static final int NO = TriangleRest.NO;

    private static final Check CHECK = new Check();

    public static void main(String[] args) {
        sections();
        things();
        barsOfThePiece();
        barsThatAreNone();
        firsts();
        trimWithin();
        trimFewestAndLeast();
        trimOnlyWhatCanBeCut();
        oddsWithin();
        oddsOfEdges();
        oddsInLeastTerms();
        oddsOfNothing();
        hearsWithin();
        fourAreHeard();
        forgotten();
        placesWithinThePiece();
        placesByTens();
        placesOfAllHeard();
        placesAsItIsCut();
        listenAtEdges();
        listenWhenItIsOver();
        listenToPlaces();
        listenNone();
        packExactly();
        packNothing();
        packLeastSet();
        packFirstWay();
        packOfRests();
        packSix();
        marks();
        marksRefused();
        counts();
        CHECK.end();
    }

    private static void due(String call, long got, long want) {
        CHECK.due(call, got, want);
    }

    /** section: "0 LONG, .. 5 whether it can be CUT NOW (1, 0). BAD." */
    private static void sections() {
        TriangleRest x = Check.reading("s1 1 0;s30 4 3;s2 2 1;s3 3 2;s4 1 0;s5 1 0;s6 1 0;s7 2 3;");
        long[][] want = {{1, 1, 0, 0, 0, 1}, {30, 4, 3, 0, 1, 1}, {7, 2, 3, 0, 149, 0}};
        int[] asked = {0, 1, 7};
        for (int i = 0; i < asked.length; i++) {
            for (int what = 0; what < 6; what++) {
                due("section(" + asked[i] + ", " + what + ")", x.section(asked[i], what), want[i][what]);
            }
        }
        due("section(8, 0)", x.section(8, 0), BAD);
        due("section(-1, 0)", x.section(-1, 0), BAD);
        due("section(7, 6)", x.section(7, 6), BAD);
        due("section(7, -1)", x.section(7, -1), BAD);
        due("section(1, 0) of one", Check.reading("s1 1 0;").section(1, 0), BAD);
        due("section(0, 0) of none", new TriangleRest().section(0, 0), BAD);
    }

    /** thing: "MINUTES of a THING. BAD." */
    private static void things() {
        TriangleRest x = Check.reading("t1;t2;t3;t4;t5;t60;");
        due("thing(0)", x.thing(0), 1);
        due("thing(5)", x.thing(5), 60);
        due("thing(6)", x.thing(6), BAD);
        due("thing(-1)", x.thing(-1), BAD);
        due("thing(1) of one", Check.reading("t7;").thing(1), BAD);
        due("thing(0) of none", new TriangleRest().thing(0), BAD);
    }

    /** bar: "0 its SECTION, 1 which time, 2 which bar of it, 3 WHO plays"; "which time (0 on)" */
    private static void barsOfThePiece() {
        TriangleRest x = Check.reading("s4 3 1;s1 2 3;s2 1 2;");
        long[][] want = {
            {0, 0, 0, 0, 1}, {3, 0, 0, 3, 1}, {4, 0, 1, 0, 1}, {7, 0, 1, 3, 1}, {8, 0, 2, 0, 1}, {11, 0, 2, 3, 1},
            {12, 1, 0, 0, 3}, {13, 1, 1, 0, 3}, {14, 2, 0, 0, 2}, {15, 2, 0, 1, 2},
            {16, NONE, NONE, NONE, NONE}, {999, NONE, NONE, NONE, NONE},
            {-1, BAD, BAD, BAD, BAD}, {1000, BAD, BAD, BAD, BAD},
        };
        for (long[] row : want) {
            for (int what = 0; what < 4; what++) {
                due("bar(" + row[0] + ", " + what + ")", x.bar((int) row[0], what), row[what + 1]);
            }
            due("bar(" + row[0] + ", -1)", x.bar((int) row[0], -1), BAD);
            due("bar(" + row[0] + ", 4)", x.bar((int) row[0], 4), BAD);
        }
    }

    /** bar: "NONE (there is none such). BAD (0 .. 999)." */
    private static void barsThatAreNone() {
        TriangleRest none = new TriangleRest();
        due("bar(0, 0), no sections", none.bar(0, 0), NONE);
        due("bar(999, 3), no sections", none.bar(999, 3), NONE);
        due("bar(1000, 0), no sections", none.bar(1000, 0), BAD);
        due("bar(0, 4), no sections", none.bar(0, 4), BAD);
        TriangleRest longest = Check.reading("s30 4 3;".repeat(7) + "s30 4 1;");
        long[] last = {7, 3, 29, 1};
        for (int what = 0; what < 4; what++) {
            due("bar(959, " + what + ")", longest.bar(959, what), last[what]);
            due("bar(960, " + what + ")", longest.bar(960, what), NONE);
        }
        longest.cuts(0);
        due("bar(839, 0), one is cut", longest.bar(839, 0), 7);
        due("bar(840, 0), one is cut", longest.bar(840, 0), NONE);
        due("bar(0, 0), one is cut", longest.bar(0, 0), 1);
        longest.bars(99);
        due("bar(0, 0), gone by", longest.bar(0, 0), 1);
    }

    /** "FIRST of a SECTION: its first BAR; NONE (it is CUT)." */
    private static void firsts() {
        TriangleRest x = Check.reading("s4 2 0;s3 1 1;s5 1 2;s2 3 0;");
        x.cuts(1);
        long[] want = {0, NONE, 8, 13};
        for (int s = 0; s < 4; s++) {
            due("FIRST of " + s, x.section(s, 4), want[s]);
        }
        x.cuts(0);
        due("FIRST of 0, cut", x.section(0, 4), NONE);
        due("FIRST of 2, all ahead are cut", x.section(2, 4), 0);
        x.undo();
        due("FIRST of 0, the cut undone", x.section(0, 4), 0);
    }

    /** "TRIM to n (0 .. 999)"; trim: "NONE (no SECTIONS, too). BAD." */
    private static void trimWithin() {
        TriangleRest x = Check.reading("s2 1 0;s3 1 0;s5 1 0;s5 1 0;s9 1 0;");
        due("trim(-1)", x.trim(-1), BAD);
        due("trim(0), all", x.trim(0), 15);
        due("trim(15), as it is", x.trim(15), 0);
        due("trim(14)", x.trim(14), NONE);
        due("trim(16)", x.trim(16), NONE);
        due("trim(999)", x.trim(999), NONE);
        due("trim(1000)", x.trim(1000), BAD);
        TriangleRest none = new TriangleRest();
        due("trim(0), no sections", none.trim(0), NONE);
        due("trim(999), no sections", none.trim(999), NONE);
        due("trim(-1), no sections", none.trim(-1), BAD);
        due("trim(1000), no sections", none.trim(1000), BAD);
        TriangleRest longest = Check.reading("s30 4 0;".repeat(8) + "n7 29;");
        due("trim(959), the longest", longest.trim(959), 0);
        due("trim(839), the longest", longest.trim(839), 1);
        due("trim(119), the longest", longest.trim(119), 127);
        due("trim(960), the longest", longest.trim(960), NONE);
        due("trim(118), the longest", longest.trim(118), NONE);
        due("trim(0), the first bar", Check.reading("s9 1 0;").trim(0), 0);
    }

    /** "the fewest SECTIONS .. (bits, of several sets the least)" */
    private static void trimFewestAndLeast() {
        TriangleRest x = Check.reading("s2 1 0;s3 1 0;s5 1 0;s5 1 0;s9 1 0;");
        due("trim(10): one of 4, 8, ahead of 3", x.trim(10), 4);
        due("trim(5): 12 ahead of 7, 11", x.trim(5), 12);
        due("trim(8): 5 of 5, 9", x.trim(8), 5);
        due("trim(2): 14 of 14", x.trim(2), 14);
        TriangleRest y = Check.reading("s1 1 0;s2 1 0;s3 1 0;s4 1 0;s9 1 0;");
        due("trim(5): 6 of 6, 9", y.trim(5), 6);
        due("trim(10 - 6): 10 ahead of 7", y.trim(4), 10);
    }

    /** "SECTIONS that can be CUT NOW" */
    private static void trimOnlyWhatCanBeCut() {
        TriangleRest x = Check.reading("s3 1 0;s3 1 0;s4 1 0;s3 1 0;n2 0;");
        due("trim(6)", x.trim(6), 0);
        due("trim(3), of what is ahead", x.trim(3), 1);
        x.bars(1);
        due("trim(3), the first has begun", x.trim(3), 2);
        due("trim(0), the first has begun", x.trim(0), NONE);
        x.cuts(1);
        due("trim(3), as it is cut", x.trim(3), 0);
        due("trim(6), cut is cut", x.trim(6), NONE);
        x.bars(2);
        due("trim(3), it is the bar", x.trim(3), 0);
        x.bars(1);
        due("trim(3), it is gone by", x.trim(3), 0);
        due("trim(2), it is gone by", x.trim(2), NONE);
    }

    private static void fraction(TriangleRest x, int of, int n, long upper, long lower) {
        due("odds(" + of + ", " + n + ", 0)", x.odds(of, n, 0), upper);
        due("odds(" + of + ", " + n + ", 1)", x.odds(of, n, 1), lower);
    }

    /** "ODDS by x (0 .. 10), n (0 .. 999)"; odds: "upper (what = 0), lower number (1)" */
    private static void oddsWithin() {
        TriangleRest x = Check.reading("s4 1 0;s6 1 0;s9 1 0;n2 1;");
        due("odds(-1, 5, 0)", x.odds(-1, 5, 0), BAD);
        due("odds(11, 5, 0)", x.odds(11, 5, 0), BAD);
        due("odds(5, -1, 0)", x.odds(5, -1, 0), BAD);
        due("odds(5, 1000, 0)", x.odds(5, 1000, 0), BAD);
        due("odds(5, 5, -1)", x.odds(5, 5, -1), BAD);
        due("odds(5, 5, 2)", x.odds(5, 5, 2), BAD);
        fraction(x, 0, 0, 0, 1);
        fraction(x, 10, 999, 1, 1);
        fraction(x, 0, 999, 1, 1);
        fraction(x, 10, 0, 0, 1);
    }

    /** "that the NOTE's BAR is n at most": it may be at 11, 7, 5, 1 */
    private static void oddsOfEdges() {
        TriangleRest x = Check.reading("s4 1 0;s6 1 0;s9 1 0;n2 1;");
        fraction(x, 0, 11, 1, 1);
        fraction(x, 0, 10, 0, 1);
        fraction(x, 10, 1, 1, 1);
        fraction(x, 10, 0, 0, 1);
        fraction(x, 1, 0, 0, 1);
        fraction(x, 1, 1, 1, 100);
        fraction(x, 1, 4, 1, 100);
        fraction(x, 1, 5, 1, 10);
        fraction(x, 1, 6, 1, 10);
        fraction(x, 1, 7, 19, 100);
        fraction(x, 1, 10, 19, 100);
        fraction(x, 1, 11, 1, 1);
        fraction(x, 9, 10, 99, 100);
        x.bars(1);
        fraction(x, 1, 4, 0, 1);
        fraction(x, 1, 5, 1, 10);
        x.cuts(1);
        fraction(x, 1, 5, 1, 1);
        fraction(x, 1, 4, 0, 1);
    }

    /** "a fraction": "in least terms" */
    private static void oddsInLeastTerms() {
        TriangleRest x = Check.reading("s4 1 0;s6 1 0;s9 1 0;n2 1;");
        fraction(x, 5, 1, 1, 4);
        fraction(x, 5, 10, 3, 4);
        fraction(x, 2, 1, 1, 25);
        fraction(x, 2, 10, 9, 25);
        fraction(x, 4, 5, 2, 5);
        fraction(x, 8, 10, 24, 25);
        TriangleRest seven = Check.reading("s1 1 0;".repeat(8));
        fraction(seven, 1, 0, 1, 10000000);
        fraction(seven, 9, 6, 9999999, 10000000);
        fraction(seven, 3, 0, 2187, 10000000);
        fraction(seven, 5, 0, 1, 128);
        fraction(seven, 5, 3, 1, 2);
        TriangleRest behind = Check.reading("s1 1 0;".repeat(8) + "n0 0;");
        fraction(behind, 3, 0, 1, 1);
    }

    /** odds: "(no SECTIONS: 0 by 1)" */
    private static void oddsOfNothing() {
        fraction(new TriangleRest(), 0, 0, 0, 1);
        fraction(new TriangleRest(), 10, 999, 0, 1);
        fraction(Check.reading("t5;"), 5, 5, 0, 1);
        due("odds(11, 0, 0), no sections", new TriangleRest().odds(11, 0, 0), BAD);
        due("odds(0, 1000, 0), no sections", new TriangleRest().odds(0, 1000, 0), BAD);
        due("odds(0, 0, 2), no sections", new TriangleRest().odds(0, 0, 2), BAD);
        fraction(Check.reading("s4 2 0;"), 5, 4, 1, 1);
        fraction(Check.reading("s4 2 0;"), 5, 3, 0, 1);
    }

    /** "HEARD ..: so many BARS (0 .. 60) behind an unknown BAR .. one heard WHO play" */
    private static void hearsWithin() {
        for (int later = -3; later <= 64; later++) {
            boolean fine = later >= 0 && later <= 60;
            due("hears(" + later + ", 0)", new TriangleRest().hears(later, 0), fine ? 1 : BAD);
        }
        for (int who = -3; who <= 7; who++) {
            boolean fine = who >= 0 && who <= 3;
            due("hears(0, " + who + ")", new TriangleRest().hears(0, who), fine ? 1 : BAD);
        }
    }

    /** "HEARD (4 at most)"; hears: "how much there is. BAD; FULL." */
    private static void fourAreHeard() {
        TriangleRest x = Check.reading("s9 1 0;");
        for (int i = 1; i <= 4; i++) {
            due("hears, " + i, x.hears(0, 0), i);
            due("HEARD, " + i, x.count(2), i);
        }
        due("hears, the fifth", x.hears(0, 1), FULL);
        due("HEARD, four", x.count(2), 4);
        due("places, the fifth does not count", x.places(-1), 9);
        due("hears(61, 0), four are there", x.hears(61, 0), BAD);
        due("hears(0, 4), four are there", x.hears(0, 4), BAD);
        due("forget()", x.forget(), 4);
        due("hears then", x.hears(0, 1), 1);
        due("places then", x.places(-1), 0);
    }

    /** forget: "Nothing was HEARD: how much was." */
    private static void forgotten() {
        TriangleRest x = Check.reading("s9 1 0;");
        due("forget(), nothing", x.forget(), 0);
        x.hears(0, 1);
        due("forget(), one", x.forget(), 1);
        due("forget() again", x.forget(), 0);
        due("HEARD then", x.count(2), 0);
        due("places then", x.places(-1), 9);
    }

    /** "PLACES: BARS at which all that was HEARD is so (within THE PIECE)" */
    private static void placesWithinThePiece() {
        TriangleRest x = Check.reading("s30 2 0;s1 1 1;");
        x.hears(60, 1);
        due("hears(60, 1) of 61 bars", x.places(-1), 1);
        due("its place", x.places(0), 0);
        TriangleRest shorter = Check.reading("s30 2 0;");
        shorter.hears(60, 0);
        due("hears(60, 0) of 60 bars", shorter.places(-1), 0);
        due("no place", shorter.places(0), NONE);
        shorter.forget();
        shorter.hears(59, 0);
        due("hears(59, 0) of 60 bars", shorter.places(-1), 1);
        TriangleRest last = Check.reading("s3 1 0;s1 1 3;");
        last.hears(0, 3);
        due("the last bar", last.places(0), 3);
        last.hears(1, 3);
        due("behind the last bar", last.places(-1), 0);
        due("places(-1), no sections", new TriangleRest().places(-1), 0);
        due("places(0), no sections", new TriangleRest().places(0), NONE);
        TriangleRest gone = Check.reading("s3 1 0;s1 1 3;");
        gone.bars(4);
        due("bars that are gone by are places", gone.places(-1), 4);
    }

    /** places: "how many (k = -1), the k-th; NONE. BAD (k -1 .. 9)." */
    private static void placesByTens() {
        for (int bars = 8; bars <= 12; bars++) {
            TriangleRest x = Check.reading("s" + bars + " 1 0;");
            due("places(-2) of " + bars, x.places(-2), BAD);
            due("places(-1) of " + bars, x.places(-1), bars);
            for (int k = 0; k <= 9; k++) {
                due("places(" + k + ") of " + bars, x.places(k), k < bars ? k : NONE);
            }
            due("places(10) of " + bars, x.places(10), BAD);
        }
        due("places(-1) of the longest", Check.reading("s30 4 0;".repeat(8)).places(-1), 960);
        TriangleRest late = Check.reading("s30 4 1;".repeat(7) + "s1 1 0;");
        late.hears(0, 0);
        due("places(0) at the end", late.places(0), 840);
        due("places(1) at the end", late.places(1), NONE);
    }

    private static void placesOfAllHeard() {
        String row = "s1 1 0;s1 1 1;s1 1 2;s1 1 3;s1 1 0;s1 1 1;s1 1 2;s1 1 0;";
        long[][] left = {{0, 4, 7, NONE}, {0, 4, NONE, NONE}, {0, 4, NONE, NONE}, {0, NONE, NONE, NONE}};
        TriangleRest x = Check.reading(row);
        for (int i = 0; i < 4; i++) {
            due("hears(" + i + ", " + i + ")", x.hears(i, i), i + 1);
            for (int k = 0; k < 4; k++) {
                due("places(" + k + "), " + (i + 1) + " heard", x.places(k), left[i][k]);
            }
        }
        TriangleRest twice = Check.reading(row);
        twice.hears(0, 0);
        twice.hears(0, 0);
        due("the same twice", twice.places(-1), 3);
        twice.hears(0, 1);
        due("two at once", twice.places(-1), 0);
    }

    /** "(as it is CUT when it is asked)" */
    private static void placesAsItIsCut() {
        TriangleRest x = Check.reading("s2 1 0;s3 1 1;s2 1 3;");
        x.hears(1, 3);
        due("places(0), nothing cut", x.places(0), 4);
        due("places(1), nothing cut", x.places(1), 5);
        x.cuts(1);
        due("places(0), cut", x.places(0), 1);
        due("places(1), cut", x.places(1), 2);
        x.cuts(0);
        due("places(-1), all cut", x.places(-1), 1);
        due("places(0), all cut", x.places(0), 0);
        x.undo();
        x.undo();
        due("places(0), undone", x.places(0), 4);
    }

    /** "LISTEN: how many BARS (0 .. 60) .., of like ones the least" */
    private static void listenAtEdges() {
        due("listen(), now", Check.reading("s4 1 0;s4 1 1;").listen(), 0);
        due("listen(), one bar", Check.reading("s1 1 0;").listen(), 0);
        due("listen(), as late as may be", Check.reading("s30 4 1;s30 4 1;").listen(), 60);
        due("listen() at 60 of 120", Check.reading("s30 4 1;").listen(), 60);
        due("listen() at 59 of 118", Check.reading("s29 4 1;s2 1 1;").listen(), 59);
        due("listen() of 119: 59 is like 60", Check.reading("s29 4 1;s3 1 1;").listen(), 59);
        due("listen() of 121: 60 is like 61", Check.reading("s30 4 1;s1 1 1;").listen(), 60);
        due("listen() of 122: 61 may not be", Check.reading("s30 4 1;s2 1 1;").listen(), 60);
    }

    /** "(or it is over: one more answer)" */
    private static void listenWhenItIsOver() {
        for (int who = 0; who < 4; who++) {
            due("listen() of 6, " + who, Check.reading("s6 1 " + who + ";").listen(), 3);
            due("listen() of 7, " + who, Check.reading("s7 1 " + who + ";").listen(), 3);
            due("listen() of 2, " + who, Check.reading("s2 1 " + who + ";").listen(), 1);
        }
        TriangleRest five = Check.reading("s2 1 0;s2 1 1;s2 1 2;s2 1 3;s2 1 0;");
        due("listen(), five answers of two each", five.listen(), 2);
    }

    /** "by which the greatest number of PLACES where the same one plays then .. is least" */
    private static void listenToPlaces() {
        TriangleRest x = Check.reading("s4 1 0;s4 1 1;");
        x.hears(0, 0);
        due("listen(), 4 places", x.listen(), 2);
        x.hears(3, 1);
        due("listen(), 3 places: 1 is like 2", x.listen(), 1);
        x.hears(1, 1);
        due("listen(), 1 place", x.listen(), 0);
        TriangleRest cut = Check.reading("s4 1 0;s4 1 1;");
        cut.cuts(0);
        due("listen(), as it is cut", cut.listen(), 2);
    }

    /** "NONE (no PLACES)" */
    private static void listenNone() {
        due("listen(), no sections", new TriangleRest().listen(), NONE);
        TriangleRest x = Check.reading("s4 1 0;");
        x.hears(4, 0);
        due("listen(), no places", x.listen(), NONE);
        x.forget();
        x.hears(3, 0);
        due("listen(), one place", x.listen(), 0);
        x.hears(3, 1);
        due("listen(), none any more", x.listen(), NONE);
    }

    private static void packs(String text, long... want) {
        TriangleRest x = Check.reading(text);
        for (int t = -2; t < want.length - 2; t++) {
            due("pack(" + t + ") of " + text, x.pack(t), want[t + 2]);
        }
        due("pack(" + (want.length - 2) + ") of " + text, x.pack(want.length - 2), BAD);
        due("pack(-3) of " + text, x.pack(-3), BAD);
    }

    /** "those in one together no longer than it": "of LONG times TIMES minutes each" */
    private static void packExactly() {
        packs("s5 2 0;t10;", 1, 1, 0);
        packs("s5 2 0;t11;", 0, 0, NONE);
        packs("s1 1 0;t1;", 1, 1, 0);
        packs("s1 1 0;t2;", 0, 0, NONE);
        packs("s9 1 0;t4;t5;", 3, 2, 0, 0);
        packs("s9 1 0;t5;t5;", 1, 1, 0, NONE);
        packs("s30 4 0;t60;t60;", 3, 2, 0, 0);
        packs("s30 4 0;t60;t60;t1;", 3, 2, 0, 0, NONE);
        packs("s20 3 0;t60;", 1, 1, 0);
        packs("s5 1 0;s5 1 0;t6;", 0, 0, NONE);
    }

    /** "NONE (it is not done)"; nothing to do, and nowhere */
    private static void packNothing() {
        packs("", 0, 0);
        packs("s9 1 0;", 0, 0);
        packs("t5;", 0, 0, NONE);
        packs("s30 4 2;t1;", 0, 0, NONE);
        due("pack(0), nothing read", new TriangleRest().pack(0), BAD);
        due("pack(6) of six", Check.reading("t1;".repeat(6)).pack(6), BAD);
        due("pack(5) of six, no rests", Check.reading("t1;".repeat(6)).pack(5), NONE);
    }

    /** "which (bits, the least of all such sets)" */
    private static void packLeastSet() {
        packs("s5 1 0;t5;t5;", 1, 1, 0, NONE);
        packs("s5 1 0;t6;t5;t4;", 2, 1, NONE, 0, NONE);
        packs("s10 1 0;t8;t5;t5;t2;", 6, 2, NONE, 0, 0, NONE);
        packs("s3 1 0;t3;t3;t1;t1;t1;", 28, 3, NONE, NONE, 0, 0, 0);
    }

    /** "in the first of all ways (THING by THING: the lowest SECTION first)" */
    private static void packFirstWay() {
        packs("s9 1 0;s9 1 0;t9;t9;", 3, 2, 0, 1);
        packs("s9 1 0;s6 1 1;t6;t5;t4;", 7, 3, 1, 0, 0);
        packs("s4 1 0;s9 1 1;t4;t4;t5;", 7, 3, 0, 1, 1);
        packs("s5 1 0;s9 1 1;t4;t4;t5;", 7, 3, 0, 1, 1);
        packs("s5 1 0;s8 1 1;t4;t4;t5;", 7, 3, 1, 1, 0);
        packs("s9 1 0;s9 1 0;t1;t2;t3;", 7, 3, 0, 0, 0);
    }

    /** "RESTS are SECTIONS .. that are not CUT and not played by BRASS" */
    private static void packOfRests() {
        packs("s9 1 0;t9;", 1, 1, 0);
        packs("s9 1 1;t9;", 1, 1, 0);
        packs("s9 1 2;t9;", 0, 0, NONE);
        packs("s9 1 3;t9;", 1, 1, 0);
        packs("s9 1 2;".repeat(7) + "s9 1 3;t9;t9;", 1, 1, 7, NONE);
        TriangleRest x = Check.reading("s9 1 0;s8 1 0;s1 1 0;t8;t8;");
        due("pack(1), not cut", x.pack(1), 1);
        x.cuts(0);
        due("pack(0), 0 is cut", x.pack(0), 1);
        due("pack(1), 0 is cut", x.pack(1), NONE);
        x.cuts(1);
        due("pack(-1), both are cut", x.pack(-1), 0);
        due("pack(-2), both are cut", x.pack(-2), 0);
        x.undo();
        x.undo();
        x.bars(18);
        due("pack(-1), all is gone by", x.pack(-1), 2);
    }

    private static void packSix() {
        packs("s30 4 0;t1;t2;t3;t4;t5;t60;", 63, 6, 0, 0, 0, 0, 0, 0);
        packs("s5 1 0;s5 1 1;s5 1 3;s5 1 0;s5 1 1;s5 1 3;t5;t5;t5;t5;t5;t5;", 63, 6, 0, 1, 2, 3, 4, 5);
        packs("s5 1 0;s5 1 1;s5 1 3;s5 1 0;s5 1 1;s4 1 3;t5;t5;t5;t5;t5;t5;", 31, 5, 0, 1, 2, 3, 4, NONE);
        packs("s7 1 0;s7 1 0;s7 1 0;t3;t3;t3;t4;t4;t4;", 63, 6, 0, 1, 2, 0, 1, 2);
    }

    /** "SECTION LONG (1). THEME up, and TIMES (10). .. CODA up, and the BAR (100000)." */
    private static void marks() {
        String eight = "s30 4 0;" + "s2 1 1;".repeat(6) + "s1 1 3;";
        long[][] want = {{30, 34, 30, 68, 30, 30}, {1, 2, -2, 4, 5, 1}};
        long[] bodies = {1, 11, 101, 1011, 10101, 100001};
        for (int i = 0; i < 2; i++) {
            for (int kind = 0; kind < 6; kind++) {
                TriangleRest x = Check.reading(eight);
                due("mark(" + kind + ", " + 7 * i + ")", x.mark(kind, 7 * i), want[i][kind]);
                due("trace() after mark(" + kind + ", ..)", x.trace(), bodies[kind]);
                x.mark(kind, 7 * i);
                due("trace() after two", x.trace(), 2 * bodies[kind]);
            }
        }
        TriangleRest x = Check.reading("s30 4 0;".repeat(8));
        for (int i = 0; i < 9; i++) {
            x.bars(99);
        }
        x.bars(69);
        due("mark(5, 0) at the end", x.mark(5, 0), 30 + 960);
        TriangleRest y = Check.reading(eight);
        for (int i = 0; i < 400; i++) {
            y.mark(5, 0);
        }
        due("trace() after 400", y.trace(), 400L * 100001);
    }

    /** mark: "NO: BAD." */
    private static void marksRefused() {
        TriangleRest x = Check.reading("s3 1 0;s4 1 0;");
        due("mark(-1, 0)", x.mark(-1, 0), NO);
        due("mark(6, 0)", x.mark(6, 0), NO);
        due("mark(0, -1)", x.mark(0, -1), NO);
        due("mark(0, 2)", x.mark(0, 2), NO);
        due("mark(6, 2)", x.mark(6, 2), NO);
        due("mark(0, 0), no sections", new TriangleRest().mark(0, 0), NO);
        due("trace() then", x.trace(), 0);
        due("mark(0, 1)", x.mark(0, 1), 4);
        x.cuts(0);
        due("mark(1, 0), cut", x.mark(1, 0), 4);
        due("trace()", x.trace(), 12);
        x.undo();
        due("trace() is not undone", x.trace(), 12);
    }

    /** count: "0 SECTIONS, 1 THINGS, 2 HEARD, 3 how many may be UNDONE, 4 bytes of THE TEXT. BAD." */
    private static void counts() {
        TriangleRest x = Check.reading("s1 1 0;".repeat(8) + "t1;".repeat(6));
        for (int i = 0; i < 11; i++) {
            x.hears(0, 0);
            x.slips(1);
        }
        for (int i = 0; i < 121; i++) {
            x.type(32);
        }
        long[] most = {8, 6, 4, 10, 120};
        for (int what = 0; what < 5; what++) {
            due("count(" + what + "), full", x.count(what), most[what]);
            due("count(" + what + "), none", new TriangleRest().count(what), 0);
        }
        due("count(-1)", x.count(-1), BAD);
        due("count(5)", x.count(5), BAD);
    }
}
