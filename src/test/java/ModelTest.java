import java.math.BigInteger;
import java.util.ArrayDeque;
import java.util.ArrayList;
import java.util.Deque;
import java.util.List;
import java.util.Random;
import java.util.regex.Matcher;
import java.util.regex.Pattern;

/** Long runs of calls, the same each time, compared with a model that spells out each bar and each way. */
public final class ModelTest {
    private static final int BAD = -1, STATE = -2, FULL = -3, NONE = -9, NO = -1000000;
    private static final int RUNS = 2000;
    /** An object is used for so many calls at most. */
    private static final int CALLS = 512;
    /** No step but the typing of a text makes more calls. */
    private static final int CALLS_OF_A_STEP = 16;
    private static final int CALLS_OF_A_TEXT = 200;

    public static void main(String[] args) {
        Check check = new Check();
        for (int run = 0; run < RUNS; run++) {
            new Run(check, run).go();
        }
        check.end();
    }

    record Part(int length, int times, int who) { }

    record Played(int part, int time, int within) { }

    record Moment(int bar, int count, int waits, List<Integer> cut, boolean struck) { }

    record Image(Moment moment, List<Moment> past) { }

    record Heard(int later, int who) { }

    /** The document, as plainly as it can be told. */
    static final class Model {
        StringBuilder text = new StringBuilder();
        List<Part> parts = new ArrayList<>();
        List<Integer> things = new ArrayList<>();
        int notePart;
        int noteWithin;
        Moment moment = new Moment(0, 0, 0, List.of(), false);
        Deque<Moment> past = new ArrayDeque<>();
        List<Heard> heard = new ArrayList<>();
        Image[] images = new Image[2];
        long trace;

        int piece() {
            Matcher m = Pattern.compile(" *([a-z]+|[0-9]+|;|[^ ])").matcher(text);
            List<String> tokens = new ArrayList<>();
            List<Integer> at = new ArrayList<>();
            while (m.find()) {
                tokens.add(m.group(1));
                at.add(m.start(1));
            }
            at.add(text.length());
            tokens.add("");
            List<Part> newParts = new ArrayList<>();
            List<Integer> newThings = new ArrayList<>();
            List<Integer> note = new ArrayList<>();
            int items = 0;
            int i = 0;
            while (!tokens.get(i).isEmpty()) {
                String word = tokens.get(i);
                int wants;
                if (word.equals("s") && newParts.size() < 8) {
                    wants = 3;
                } else if (word.equals("n") && note.isEmpty()) {
                    wants = 2;
                } else if (word.equals("t") && newThings.size() < 6) {
                    wants = 1;
                } else {
                    return -10 - at.get(i);
                }
                List<Integer> told = new ArrayList<>();
                for (int k = 0; k < wants; k++) {
                    i++;
                    if (!tokens.get(i).matches("0|[1-9][0-9]?")) {
                        return -10 - at.get(i);
                    }
                    told.add(Integer.parseInt(tokens.get(i)));
                    int last = told.get(k);
                    boolean fine = switch (word + k) {
                        case "s0" -> last >= 1 && last <= 30;
                        case "s1" -> last >= 1 && last <= 4;
                        case "s2" -> last <= 3;
                        case "n0" -> last < newParts.size();
                        case "n1" -> last < newParts.get(told.get(0)).length();
                        default -> last >= 1 && last <= 60;
                    };
                    if (!fine) {
                        return -10 - at.get(i);
                    }
                }
                i++;
                if (!tokens.get(i).equals(";")) {
                    return -10 - at.get(i);
                }
                i++;
                items++;
                switch (word) {
                    case "s" -> newParts.add(new Part(told.get(0), told.get(1), told.get(2)));
                    case "n" -> note.addAll(told);
                    default -> newThings.add(told.get(0));
                }
            }
            parts = newParts;
            things = newThings;
            notePart = note.isEmpty() ? parts.size() - 1 : note.get(0);
            noteWithin = note.isEmpty() ? 0 : note.get(1);
            moment = new Moment(0, 0, 0, List.of(), false);
            past.clear();
            heard.clear();
            images = new Image[2];
            text.setLength(0);
            return items;
        }

        List<Played> played(List<Integer> cut) {
            List<Played> all = new ArrayList<>();
            for (int p = 0; p < parts.size(); p++) {
                for (int time = 0; time < parts.get(p).times() && !cut.contains(p); time++) {
                    for (int within = 0; within < parts.get(p).length(); within++) {
                        all.add(new Played(p, time, within));
                    }
                }
            }
            return all;
        }

        List<Played> played() {
            return played(moment.cut());
        }

        int first(int p) {
            return played().indexOf(new Played(p, 0, 0));
        }

        int note(List<Integer> cut) {
            return played(cut).indexOf(new Played(notePart, parts.get(notePart).times() - 1, noteWithin));
        }

        boolean canCut(int p) {
            return !moment.cut().contains(p) && p != notePart && first(p) >= moment.bar();
        }

        List<Integer> cuttable() {
            List<Integer> can = new ArrayList<>();
            for (int p = 0; p < parts.size(); p++) {
                if (canCut(p)) {
                    can.add(p);
                }
            }
            return can;
        }

        static List<Integer> with(List<Integer> list, List<Integer> more) {
            List<Integer> both = new ArrayList<>(list);
            both.addAll(more);
            return both;
        }

        static int bits(List<Integer> list) {
            int bits = 0;
            for (int p : list) {
                bits |= 1 << p;
            }
            return bits;
        }

        void become(Moment then) {
            past.addLast(moment);
            if (past.size() > 10) {
                past.removeFirst();
            }
            moment = then;
        }

        int bars(int n) {
            if (n < 1 || n > 99) {
                return BAD;
            }
            if (moment.bar() + n > played().size()) {
                return STATE;
            }
            boolean struck = moment.struck();
            for (int b = moment.bar(); b < moment.bar() + n; b++) {
                struck |= b == note(moment.cut()) && moment.count() == moment.bar();
            }
            become(new Moment(moment.bar() + n, moment.count() + n, moment.waits(), moment.cut(), struck));
            return moment.bar();
        }

        int slips(int d) {
            if (d == 0 || Math.abs((long) d) > 9) {
                return NO;
            }
            become(new Moment(moment.bar(), moment.count() + d, moment.waits(), moment.cut(), moment.struck()));
            return moment.count();
        }

        int cue() {
            int here = NONE;
            for (int p = 0; p < parts.size(); p++) {
                if (first(p) == moment.bar()) {
                    here = p;
                }
            }
            if (here == NONE) {
                return NO;
            }
            for (int far = 0; ; far++) {
                for (int b : new int[] {moment.count() - far, moment.count() + far}) {
                    for (int p = 0; p < parts.size(); p++) {
                        if (b >= 0 && first(p) == b && parts.get(p).who() == parts.get(here).who()) {
                            become(new Moment(moment.bar(), b, moment.waits(), moment.cut(), moment.struck()));
                            return b;
                        }
                    }
                }
            }
        }

        int cuts(int s) {
            if (s < 0 || s >= parts.size()) {
                return BAD;
            }
            if (!canCut(s)) {
                return STATE;
            }
            List<Integer> cut = with(moment.cut(), List.of(s));
            become(new Moment(moment.bar(), moment.count(), moment.waits(), cut, moment.struck()));
            return played().size();
        }

        int waits(int n) {
            if (n < 1 || n > 99) {
                return BAD;
            }
            if (moment.waits() + n > 999) {
                return STATE;
            }
            become(new Moment(moment.bar(), moment.count(), moment.waits() + n, moment.cut(), moment.struck()));
            return moment.waits();
        }

        int undo() {
            if (past.isEmpty()) {
                return STATE;
            }
            moment = past.removeLast();
            return past.size();
        }

        int now(int what) {
            boolean empty = parts.isEmpty();
            return switch (what) {
                case 0 -> moment.bar();
                case 1 -> moment.count();
                case 2 -> moment.waits();
                case 3 -> bits(moment.cut());
                case 4 -> moment.struck() ? 1 : 0;
                case 5 -> played().size();
                case 6 -> empty ? NONE : note(moment.cut());
                case 7 -> empty ? NO : note(moment.cut()) - moment.bar();
                case 8 -> empty ? NONE : note(with(moment.cut(), cuttable()));
                default -> NO;
            };
        }

        int section(int s, int what) {
            if (s < 0 || s >= parts.size()) {
                return BAD;
            }
            return switch (what) {
                case 0 -> parts.get(s).length();
                case 1 -> parts.get(s).times();
                case 2 -> parts.get(s).who();
                case 3 -> moment.cut().contains(s) ? 1 : 0;
                case 4 -> moment.cut().contains(s) ? NONE : first(s);
                case 5 -> canCut(s) ? 1 : 0;
                default -> BAD;
            };
        }

        int bar(int b, int what) {
            if (b < 0 || b > 999 || what < 0 || what > 3) {
                return BAD;
            }
            if (b >= played().size()) {
                return NONE;
            }
            Played p = played().get(b);
            return switch (what) {
                case 0 -> p.part();
                case 1 -> p.time();
                case 2 -> p.within();
                default -> parts.get(p.part()).who();
            };
        }

        static List<List<Integer>> subsets(List<Integer> of) {
            List<List<Integer>> all = new ArrayList<>();
            all.add(List.of());
            for (int p : of) {
                for (List<Integer> set : List.copyOf(all)) {
                    all.add(with(set, List.of(p)));
                }
            }
            return all;
        }

        int trim(int n) {
            if (n < 0 || n > 999) {
                return BAD;
            }
            int best = NONE;
            int fewest = 99;
            if (!parts.isEmpty()) {
                for (List<Integer> set : subsets(cuttable())) {
                    boolean better = set.size() < fewest || set.size() == fewest && bits(set) < best;
                    if (better && note(with(moment.cut(), set)) == n) {
                        best = bits(set);
                        fewest = set.size();
                    }
                }
            }
            return best;
        }

        int odds(int x, int n, int what) {
            if (x < 0 || x > 10 || n < 0 || n > 999 || what < 0 || what > 1) {
                return BAD;
            }
            BigInteger upper = BigInteger.ZERO;
            BigInteger lower = BigInteger.ONE;
            if (!parts.isEmpty()) {
                List<Integer> can = cuttable();
                lower = BigInteger.TEN.pow(can.size());
                for (List<Integer> set : subsets(can)) {
                    if (note(with(moment.cut(), set)) <= n) {
                        upper = upper.add(BigInteger.valueOf(x).pow(set.size())
                            .multiply(BigInteger.valueOf(10 - x).pow(can.size() - set.size())));
                    }
                }
            }
            BigInteger shared = upper.gcd(lower);
            return (what == 0 ? upper : lower).divide(shared).intValueExact();
        }

        int hears(int later, int who) {
            if (later < 0 || later > 60 || who < 0 || who > 3) {
                return BAD;
            }
            if (heard.size() == 4) {
                return FULL;
            }
            heard.add(new Heard(later, who));
            return heard.size();
        }

        /** Who plays bar b of all those, 4 if it is over. */
        int playing(List<Played> all, int b) {
            return b < all.size() ? parts.get(all.get(b).part()).who() : 4;
        }

        List<Integer> places() {
            List<Played> all = played();
            List<Integer> places = new ArrayList<>();
            for (int b = 0; b < all.size(); b++) {
                int at = b;
                if (heard.stream().allMatch(h -> playing(all, at + h.later()) == h.who())) {
                    places.add(b);
                }
            }
            return places;
        }

        int places(int k) {
            if (k < -1 || k > 9) {
                return BAD;
            }
            List<Integer> places = places();
            if (k == -1) {
                return places.size();
            }
            return k < places.size() ? places.get(k) : NONE;
        }

        int listen() {
            List<Integer> places = places();
            List<Played> all = played();
            int best = NONE;
            int least = Integer.MAX_VALUE;
            for (int later = 0; later <= 60 && !places.isEmpty(); later++) {
                int[] answers = new int[5];
                int greatest = 0;
                for (int b : places) {
                    greatest = Math.max(greatest, ++answers[playing(all, b + later)]);
                }
                if (greatest < least) {
                    least = greatest;
                    best = later;
                }
            }
            return best;
        }

        /** The best way found so far: where each thing is done, NONE if it is not. */
        private int[] bestWay;

        int pack(int t) {
            if (t < -2 || t >= things.size()) {
                return BAD;
            }
            int[] rooms = new int[parts.size()];
            for (int p = 0; p < rooms.length; p++) {
                boolean rest = !moment.cut().contains(p) && parts.get(p).who() != 2;
                rooms[p] = rest ? parts.get(p).length() * parts.get(p).times() : 0;
            }
            bestWay = null;
            tryWays(0, new int[things.size()], rooms);
            int bits = 0;
            for (int i = 0; i < bestWay.length; i++) {
                bits |= bestWay[i] == NONE ? 0 : 1 << i;
            }
            return t == -1 ? Integer.bitCount(bits) : t == -2 ? bits : bestWay[t];
        }

        private void tryWays(int t, int[] way, int[] rooms) {
            if (t == way.length) {
                if (bestWay == null || isBetter(way, bestWay)) {
                    bestWay = way.clone();
                }
                return;
            }
            for (int p = 0; p < rooms.length; p++) {
                if (rooms[p] >= things.get(t)) {
                    way[t] = p;
                    rooms[p] -= things.get(t);
                    tryWays(t + 1, way, rooms);
                    rooms[p] += things.get(t);
                }
            }
            way[t] = NONE;
            tryWays(t + 1, way, rooms);
        }

        private static boolean isBetter(int[] way, int[] than) {
            int set = 0;
            int other = 0;
            for (int i = 0; i < way.length; i++) {
                set |= way[i] == NONE ? 0 : 1 << i;
                other |= than[i] == NONE ? 0 : 1 << i;
            }
            if (Integer.bitCount(set) != Integer.bitCount(other)) {
                return Integer.bitCount(set) > Integer.bitCount(other);
            }
            // Ways of one set come in their own order: the first stays.
            return set < other;
        }

        int mark(int kind, int s) {
            if (kind < 0 || kind > 5 || s < 0 || s >= parts.size()) {
                return NO;
            }
            Part p = parts.get(s);
            trace += new long[] {1, 11, 101, 1011, 10101, 100001}[kind];
            return switch (kind) {
                case 0 -> p.length();
                case 1 -> p.length() + p.times();
                case 2 -> p.length() - p.who();
                case 3 -> 2 * p.length() + 2 * p.times();
                case 4 -> p.length() - p.who() + s;
                default -> p.length() + moment.bar();
            };
        }

        int keep(int image) {
            if (image != 0 && image != 1) {
                return BAD;
            }
            images[image] = new Image(moment, List.copyOf(past));
            return moment.bar();
        }

        int back(int image) {
            if (image != 0 && image != 1) {
                return BAD;
            }
            if (images[image] == null) {
                return STATE;
            }
            moment = images[image].moment();
            past = new ArrayDeque<>(images[image].past());
            return moment.bar();
        }

        int count(int what) {
            return switch (what) {
                case 0 -> parts.size();
                case 1 -> things.size();
                case 2 -> heard.size();
                case 3 -> past.size();
                case 4 -> text.length();
                default -> BAD;
            };
        }
    }

    /** One run of calls on a new object and a new model. */
    static final class Run {
        private final Check check;
        private final int number;
        private final Random random;
        private final TriangleRest rest = new TriangleRest();
        private final Model model = new Model();
        private int calls;

        Run(Check check, int number) {
            this.check = check;
            this.number = number;
            this.random = new Random(number);
        }

        void go() {
            type(number % 3 == 0 ? noise() : tellPiece());
            piece();
            for (int i = 0; i < CALLS && calls + CALLS_OF_A_STEP <= CALLS; i++) {
                call();
            }
            check.holds("run " + number + " has at most 512 calls: " + calls, calls <= CALLS);
        }

        /** A number within, or now and then beyond, what it may be. */
        private int some(int least, int most) {
            int kind = random.nextInt(40);
            if (kind == 0) {
                return random.nextInt();
            }
            return kind == 1 ? most + 1 : kind == 2 ? least - 1 : least + random.nextInt(most - least + 1);
        }

        private int pick(int least, int most) {
            return least + random.nextInt(most - least + 1);
        }

        private String tellPiece() {
            StringBuilder text = new StringBuilder();
            int small = random.nextInt(3);
            int parts = random.nextInt(10) == 0 ? pick(0, 9) : pick(1, 8);
            int[] lengths = new int[9];
            for (int i = 0; i < parts; i++) {
                lengths[i] = small == 0 ? 30 - pick(0, 3) : pick(1, small == 1 ? 6 : 30);
                text.append("s").append(lengths[i]).append(" ").append(pick(1, small == 1 ? 2 : 4));
                text.append(" ").append(pick(0, 3)).append(blanks()).append(";").append(blanks());
            }
            if (random.nextBoolean() && parts > 0) {
                int s = pick(0, parts - 1);
                text.append("n").append(blanks()).append(s).append(" ").append(pick(0, lengths[s] - 1)).append(";");
            }
            for (int i = pick(0, 6); i > 0; i--) {
                text.append("t").append(pick(1, small == 1 ? 9 : 60)).append(";");
            }
            if (random.nextInt(6) == 0 && text.length() > 0) {
                text.setCharAt(random.nextInt(text.length()), noise().charAt(0));
            }
            return text.toString();
        }

        private String blanks() {
            return random.nextInt(12) == 0 ? "  " : "";
        }

        private String noise() {
            String signs = "sssntt;;;;  0112345678 9ax" + (char) 0 + (char) 200;
            StringBuilder text = new StringBuilder();
            for (int i = random.nextInt(20); i >= 0; i--) {
                text.append(signs.charAt(random.nextInt(signs.length())));
            }
            return text.toString();
        }

        private void type(String text) {
            for (int i = 0; i < text.length(); i++) {
                due("type", rest.type(text.charAt(i)), modelType(text.charAt(i)));
            }
        }

        private int modelType(int c) {
            if (c < 0 || c > 255) {
                return BAD;
            }
            if (model.text.length() == 120) {
                return FULL;
            }
            return model.text.append((char) c).length();
        }

        private void piece() {
            int want = model.piece();
            due("piece()", rest.piece(), want);
            if (want < 0) {
                due("clear()", rest.clear(), model.text.length());
                model.text.setLength(0);
            }
        }

        private void due(String call, long got, long want) {
            calls++;
            check.due("run " + number + ": " + call, got, want);
        }

        private void call() {
            int a = random.nextInt(32);
            if (a < 16) {
                act(a);
            } else {
                ask(a);
            }
        }

        private void act(int a) {
            int n = a < 3 && random.nextInt(3) > 0 ? pick(1, 9) : some(1, 99);
            int s = some(0, 7);
            int image = some(0, 1);
            int d = some(-9, 9);
            switch (a) {
                case 0, 1 -> due("bars(" + n + ")", rest.bars(n), model.bars(n));
                case 2 -> due("waits(" + n + ")", rest.waits(n), model.waits(n));
                case 3 -> toNextFirst();
                case 4, 5 -> due("slips(" + d + ")", rest.slips(d), model.slips(d));
                case 6, 7 -> due("cue()", rest.cue(), model.cue());
                case 8 -> due("cuts(" + s + ")", rest.cuts(s), model.cuts(s));
                case 9, 10 -> due("undo()", rest.undo(), model.undo());
                case 11 -> due("keep(" + image + ")", rest.keep(image), model.keep(image));
                case 12 -> due("back(" + image + ")", rest.back(image), model.back(image));
                case 13 -> hear();
                case 14 -> {
                    if (random.nextInt(3) == 0) {
                        due("forget()", rest.forget(), model.heard.size());
                        model.heard.clear();
                    }
                }
                default -> {
                    if (random.nextInt(12) == 0 && calls + CALLS_OF_A_TEXT <= CALLS) {
                        type(random.nextBoolean() ? noise() : tellPiece());
                        piece();
                    }
                }
            }
        }

        private void toNextFirst() {
            for (int p = 0; p < model.parts.size(); p++) {
                int n = model.first(p) - model.moment.bar();
                if (n > 0 && n < 100) {
                    due("bars(" + n + ")", rest.bars(n), model.bars(n));
                    return;
                }
            }
        }

        private void hear() {
            int later = random.nextBoolean() ? pick(0, 9) : some(0, 60);
            int who = some(0, 3);
            due("hears(" + later + ", " + who + ")", rest.hears(later, who), model.hears(later, who));
        }

        private void ask(int a) {
            int s = some(0, 7);
            int b = some(0, 999) / (random.nextInt(4) + 1);
            int n = random.nextBoolean() ? b : near();
            switch (a) {
                case 16, 17, 18 -> {
                    for (int what = -1; what <= 9; what++) {
                        due("now(" + what + ")", rest.now(what), model.now(what));
                    }
                }
                case 19 -> {
                    for (int what = -1; what <= 6; what++) {
                        due("section(" + s + ", " + what + ")", rest.section(s, what), model.section(s, what));
                    }
                }
                case 20 -> due("thing(" + s + ")", rest.thing(s), s >= 0 && s < model.things.size() ? model.things.get(s) : BAD);
                case 21 -> {
                    for (int what = -1; what <= 4; what++) {
                        due("bar(" + b + ", " + what + ")", rest.bar(b, what), model.bar(b, what));
                    }
                }
                case 22, 23 -> due("trim(" + n + ")", rest.trim(n), model.trim(n));
                case 24 -> {
                    int x = some(0, 10);
                    for (int what = -1; what <= 2; what++) {
                        due("odds(" + x + ", " + n + ", " + what + ")", rest.odds(x, n, what), model.odds(x, n, what));
                    }
                }
                case 25, 26 -> {
                    for (int k = -2; k <= 10; k++) {
                        due("places(" + k + ")", rest.places(k), model.places(k));
                    }
                }
                case 27 -> due("listen()", rest.listen(), model.listen());
                case 28 -> askPack();
                case 29, 30 -> {
                    int kind = some(0, 5);
                    due("mark(" + kind + ", " + s + ")", rest.mark(kind, s), model.mark(kind, s));
                    due("trace()", rest.trace(), model.trace);
                }
                default -> {
                    for (int what = -1; what <= 5; what++) {
                        due("count(" + what + ")", rest.count(what), model.count(what));
                    }
                }
            }
        }

        /** A bar that some cuts bring the note to. */
        private int near() {
            if (model.parts.isEmpty()) {
                return 0;
            }
            List<Integer> cut = new ArrayList<>(model.moment.cut());
            for (int p : model.cuttable()) {
                if (random.nextBoolean()) {
                    cut.add(p);
                }
            }
            return model.note(cut);
        }

        private void askPack() {
            // The model tries all ways, so that it is asked of many at times only.
            boolean many = model.things.size() > 5 && model.parts.size() > 6;
            if (!many || random.nextInt(20) == 0) {
                for (int t = -3; t <= 6; t++) {
                    due("pack(" + t + ")", rest.pack(t), model.pack(t));
                }
            }
        }
    }
}
