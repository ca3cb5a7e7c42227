import java.util.ArrayList;
import java.util.List;
import java.util.Set;
import java.util.TreeSet;
import java.util.function.Supplier;

/**
 * "Refused, and nothing changes, the first of these: BAD (a number is not as told, or there is no such thing),
 * STATE (as told), FULL." Each number that a call takes, with many values below and above what it may be; and
 * that questions change nothing. Each in a new object, in one in the midst of things, and in a full one.
 */
public final class RefusedTest {
    private static final int BAD = TriangleRest.BAD;
    private static final int STATE = TriangleRest.STATE;
    private static final int FULL = TriangleRest.FULL;
    private static final int NO = TriangleRest.NO;

    /** So many refused calls go to one object, to stay within its 512 calls. */
    private static final int BATCH = 50;

    private static final Check CHECK = new Check();
    private static final int[] NUMBERS = numbers();

    private interface Call {
        long with(TriangleRest x, int number);
    }

    public static void main(String[] args) {
        numbersIn("a new object", TriangleRest::new, 0, 0);
        numbersIn("the midst", Twins::midst, 5, 2);
        numbersIn("a full one", Twins::full, 8, 6);
        badAheadOfOthers();
        stateThings();
        fullThings();
        nothingToBeDone();
        questionsChangeNothing();
        CHECK.end();
    }

    /** All about 0 and 1000, and numbers that would be good ones if an int's upper bits were lost. */
    private static int[] numbers() {
        Set<Integer> all = new TreeSet<>();
        for (int i = -1010; i <= 1010; i++) {
            all.add(i);
        }
        for (int shift = 5; shift < 32; shift++) {
            for (int near = -12; near <= 12; near++) {
                all.add((1 << shift) + near);
                all.add(-(1 << shift) + near);
            }
            all.add((1 << shift) + 's');
        }
        int[] row = new int[all.size()];
        int size = 0;
        for (int number : all) {
            row[size++] = number;
        }
        return row;
    }

    private static TriangleRest fullOfText() {
        TriangleRest x = new TriangleRest();
        Check.type(x, "s5 2 0;".repeat(8) + "t60;".repeat(6) + " ".repeat(35) + "n7 4;");
        return x;
    }

    private static void refusedBeyond(String call, Supplier<TriangleRest> made, int least, int most, long want,
            Call called) {
        List<Integer> beyond = new ArrayList<>();
        for (int number : NUMBERS) {
            if (number < least || number > most) {
                beyond.add(number);
            }
        }
        for (int from = 0; from < beyond.size(); from += BATCH) {
            List<Integer> batch = beyond.subList(from, Math.min(from + BATCH, beyond.size()));
            Twins.stayAlike(CHECK, call, made, x -> {
                for (int number : batch) {
                    CHECK.due(call + " of " + number, called.with(x, number), want);
                }
            });
        }
    }

    private static void numbersIn(String where, Supplier<TriangleRest> made, int sections, int things) {
        int last = sections - 1;
        refusedBeyond(where + ": type", made, 0, 255, BAD, TriangleRest::type);
        refusedBeyond(where + ": section, s", made, 0, last, BAD, (x, s) -> x.section(s, 0));
        refusedBeyond(where + ": section, what", made, 0, sections == 0 ? -1 : 5, BAD, (x, what) -> x.section(0, what));
        refusedBeyond(where + ": thing", made, 0, things - 1, BAD, TriangleRest::thing);
        refusedBeyond(where + ": bar, b", made, 0, 999, BAD, (x, b) -> x.bar(b, 0));
        refusedBeyond(where + ": bar, what", made, 0, 3, BAD, (x, what) -> x.bar(0, what));
        refusedBeyond(where + ": bar beyond the piece, what", made, 0, 3, BAD, (x, what) -> x.bar(999, what));
        refusedBeyond(where + ": bars", made, 1, 99, BAD, TriangleRest::bars);
        refusedBeyond(where + ": slips below and above", made, -9, 9, NO, TriangleRest::slips);
        Twins.refused(CHECK, where + ": slips(0)", made, x -> x.slips(0), NO);
        refusedBeyond(where + ": cuts", made, 0, last, BAD, TriangleRest::cuts);
        refusedBeyond(where + ": waits", made, 1, 99, BAD, TriangleRest::waits);
        refusedBeyond(where + ": now", made, 0, 8, NO, TriangleRest::now);
        refusedBeyond(where + ": trim", made, 0, 999, BAD, TriangleRest::trim);
        refusedBeyond(where + ": odds, x", made, 0, 10, BAD, (x, of) -> x.odds(of, 5, 0));
        refusedBeyond(where + ": odds, n", made, 0, 999, BAD, (x, n) -> x.odds(5, n, 1));
        refusedBeyond(where + ": odds, what", made, 0, 1, BAD, (x, what) -> x.odds(5, 5, what));
        refusedBeyond(where + ": hears, later", made, 0, 60, BAD, (x, later) -> x.hears(later, 0));
        refusedBeyond(where + ": hears, who", made, 0, 3, BAD, (x, who) -> x.hears(0, who));
        refusedBeyond(where + ": places", made, -1, 9, BAD, TriangleRest::places);
        refusedBeyond(where + ": pack", made, -2, things - 1, BAD, TriangleRest::pack);
        refusedBeyond(where + ": mark, kind", made, 0, sections == 0 ? -1 : 5, NO, (x, kind) -> x.mark(kind, 0));
        refusedBeyond(where + ": mark, s", made, 0, last, NO, (x, s) -> x.mark(5, s));
        refusedBeyond(where + ": keep", made, 0, 1, BAD, TriangleRest::keep);
        refusedBeyond(where + ": back", made, 0, 1, BAD, TriangleRest::back);
        refusedBeyond(where + ": count", made, 0, 4, BAD, TriangleRest::count);
    }

    private static void badAheadOfOthers() {
        refusedBeyond("type, the text is full", RefusedTest::fullOfText, 0, 255, BAD, TriangleRest::type);
        Twins.refused(CHECK, "bars(100) at the end", Twins::full, x -> x.bars(100), BAD);
        Twins.refused(CHECK, "waits(100) at 999", Twins::full, x -> x.waits(100), BAD);
        Twins.refused(CHECK, "cuts(8), none can be", Twins::full, x -> x.cuts(8), BAD);
        Twins.refused(CHECK, "hears(61, 0), four are there", Twins::full, x -> x.hears(61, 0), BAD);
        Twins.refused(CHECK, "hears(0, 4), four are there", Twins::full, x -> x.hears(0, 4), BAD);
        Twins.refused(CHECK, "back(2), none was kept", TriangleRest::new, x -> x.back(2), BAD);
    }

    private static void stateThings() {
        Twins.refused(CHECK, "bars(1), no sections", TriangleRest::new, x -> x.bars(1), STATE);
        Twins.refused(CHECK, "bars(1) at the end", Twins::full, x -> x.bars(1), STATE);
        Twins.refused(CHECK, "bars(99) at the end", Twins::full, x -> x.bars(99), STATE);
        Twins.refused(CHECK, "bars(12), 11 are left", Twins::midst, x -> x.bars(12), STATE);
        Twins.refused(CHECK, "cuts(0), begun", Twins::midst, x -> x.cuts(0), STATE);
        Twins.refused(CHECK, "cuts(1), cut", Twins::midst, x -> x.cuts(1), STATE);
        Twins.refused(CHECK, "cuts(3), the note", Twins::midst, x -> x.cuts(3), STATE);
        Twins.refused(CHECK, "cuts(7) at the end", Twins::full, x -> x.cuts(7), STATE);
        Twins.refused(CHECK, "waits(1) at 999", Twins::full, x -> x.waits(1), STATE);
        Twins.refused(CHECK, "waits(99) at 999", Twins::full, x -> x.waits(99), STATE);
        Twins.refused(CHECK, "undo(), none", TriangleRest::new, TriangleRest::undo, STATE);
        Twins.refused(CHECK, "back(0), none was kept", TriangleRest::new, x -> x.back(0), STATE);
        Twins.refused(CHECK, "back(1), none was kept", TriangleRest::new, x -> x.back(1), STATE);
    }

    private static void fullThings() {
        Twins.refused(CHECK, "type(32), the text is full", RefusedTest::fullOfText, x -> x.type(32), FULL);
        Twins.refused(CHECK, "type(0), the text is full", RefusedTest::fullOfText, x -> x.type(0), FULL);
        Twins.refused(CHECK, "type(255), the text is full", RefusedTest::fullOfText, x -> x.type(255), FULL);
        Twins.refused(CHECK, "hears(0, 0), four are there", Twins::full, x -> x.hears(0, 0), FULL);
        Twins.refused(CHECK, "hears(60, 3), four are there", Twins::full, x -> x.hears(60, 3), FULL);
    }

    private static void nothingToBeDone() {
        Twins.refused(CHECK, "cue(), no sections", TriangleRest::new, TriangleRest::cue, NO);
        Twins.refused(CHECK, "cue() at the end", Twins::full, TriangleRest::cue, NO);
        Twins.refused(CHECK, "forget(), nothing heard", TriangleRest::new, TriangleRest::forget, 0);
        Twins.refused(CHECK, "clear(), no text", TriangleRest::new, TriangleRest::clear, 0);
    }

    private static void questionsChangeNothing() {
        for (int i = 0; i < 3; i++) {
            Supplier<TriangleRest> made = i == 0 ? TriangleRest::new : i == 1 ? Twins::midst : Twins::full;
            Twins.stayAlike(CHECK, "questions", made, RefusedTest::askAll);
        }
    }

    private static void askAll(TriangleRest x) {
        for (int of = 0; of < 9; of++) {
            x.section(of, of % 6);
            x.thing(of);
            x.bar(of * 100, of % 4);
            x.now(of);
            x.trim(of * 5);
            x.odds(of, of * 5, of % 2);
            x.places(of);
            x.count(of % 5);
        }
        x.listen();
        for (int t = -2; t < 6; t++) {
            x.pack(t);
        }
        x.trace();
    }
}
