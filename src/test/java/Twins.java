import java.util.ArrayList;
import java.util.List;
import java.util.function.Consumer;
import java.util.function.Supplier;
import java.util.function.ToLongFunction;

/**
 * Two objects made alike, of which one gets calls that must change nothing: whatever can be seen of the
 * two is alike then, what may be undone, the images and the text that has not been read yet, too.
 */
final class Twins {
    private Twins() { }

    /** Section 1 is cut, 2 and 3 have not begun; six may be undone, both images are kept, a text is begun. */
    static TriangleRest midst() {
        TriangleRest x = Check.reading("s4 2 0;s3 1 1;s5 1 2;s2 3 0;s6 1 3;n3 1;t8;t3;");
        x.slips(2);
        x.bars(8);
        x.keep(0);
        x.cuts(1);
        x.waits(30);
        x.cuts(4);
        x.keep(1);
        x.slips(-4);
        x.hears(3, 0);
        x.hears(1, 2);
        x.mark(4, 3);
        Check.type(x, "s7 1 2;n0 3;t9;");
        return x;
    }

    /** All there may be of sections, things, bars, waits and what is heard; ten may be undone. */
    static TriangleRest full() {
        TriangleRest x = Check.reading("s30 4 1;".repeat(7) + "s30 4 3;n7 29;" + "t60;".repeat(6));
        for (int i = 0; i < 10; i++) {
            x.waits(99);
        }
        x.waits(9);
        x.keep(1);
        for (int i = 0; i < 9; i++) {
            x.bars(99);
        }
        x.bars(69);
        x.keep(0);
        for (int i = 0; i < 4; i++) {
            x.hears(i, 1);
        }
        x.mark(3, 7);
        Check.type(x, "t5;");
        return x;
    }

    static void stayAlike(Check check, String calls, Supplier<TriangleRest> made, Consumer<TriangleRest> called) {
        TriangleRest touched = made.get();
        called.accept(touched);
        List<Long> got = allOf(touched);
        List<Long> want = allOf(made.get());
        check.holds(calls + ": nothing changes (" + got + ", was " + want + ")", got.equals(want));
    }

    static void refused(Check check, String call, Supplier<TriangleRest> made, ToLongFunction<TriangleRest> called,
            long want) {
        stayAlike(check, call, made, x -> check.due(call, called.applyAsLong(x), want));
    }

    /** Uses the object up: asks, undoes, goes back to both images, reads the text. */
    private static List<Long> allOf(TriangleRest x) {
        List<Long> all = new ArrayList<>();
        addQuestions(all, x);
        addPast(all, x);
        for (int image = 0; image < 2; image++) {
            all.add((long) x.back(image));
            addPast(all, x);
        }
        all.add((long) x.count(4));
        all.add((long) x.piece());
        addTold(all, x, 3);
        return all;
    }

    private static void addQuestions(List<Long> all, TriangleRest x) {
        for (int what = 0; what < 5; what++) {
            all.add((long) x.count(what));
        }
        for (int what = 5; what < 9; what++) {
            all.add((long) x.now(what));
        }
        for (int k = -1; k < 10; k++) {
            all.add((long) x.places(k));
        }
        all.add((long) x.listen());
        for (int t = -2; t < x.count(1); t++) {
            all.add((long) x.pack(t));
        }
        all.add(x.trace());
        addTold(all, x, 6);
    }

    private static void addTold(List<Long> all, TriangleRest x, int whats) {
        int sections = x.count(0);
        for (int s = 0; s < sections; s++) {
            for (int what = 0; what < whats; what++) {
                all.add((long) x.section(s, what));
            }
        }
        int things = x.count(1);
        for (int t = 0; t < things; t++) {
            all.add((long) x.thing(t));
        }
        all.add((long) x.now(6));
    }

    private static void addPast(List<Long> all, TriangleRest x) {
        int more = x.count(3);
        addNow(all, x);
        for (int i = 0; i < more; i++) {
            all.add((long) x.undo());
            addNow(all, x);
        }
    }

    private static void addNow(List<Long> all, TriangleRest x) {
        for (int what = 0; what < 5; what++) {
            all.add((long) x.now(what));
        }
    }
}
