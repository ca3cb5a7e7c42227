/**
 * A triangle player's rest: the piece as a text tells it, the bars that go by and how they are
 * counted, and what can be worked out about cuts, what is heard, and what fits into the rests.
 * The document's words are kept as names: sections, note, things, cut, heard, rests, kinds.
 */
public final class TriangleRest {
    public static final int BAD = -1, STATE = -2, FULL = -3, NONE = -9;
    public static final int NO = -1000000;

    private static final int SECTIONS_AT_MOST = 8;
    private static final int THINGS_AT_MOST = 6;
    private static final int LONG_AT_MOST = 30;
    private static final int TIMES_AT_MOST = 4;
    private static final int MINUTES_AT_MOST = 60;
    private static final int PLAYERS = 4;
    private static final int BRASS = 2;
    private static final int BARS_AT_MOST = SECTIONS_AT_MOST * LONG_AT_MOST * TIMES_AT_MOST;
    private static final int TOLD_AT_MOST = 999;
    private static final int STEP_AT_MOST = 99;
    private static final int SLIP_AT_MOST = 9;
    private static final int WAITS_AT_MOST = 999;
    private static final int LATER_AT_MOST = 60;
    private static final int PLACE_AT_MOST = 9;
    private static final int IMAGES = 2;
    private static final int KINDS = 6;
    private static final int FAULT_BASE = -10;

    private final Text text = new Text();
    private final Score score = new Score();
    private final Score draft = new Score();
    private final Course course = new Course();
    private final Course firstImage = new Course();
    private final Course secondImage = new Course();
    private final Ear ear = new Ear();
    private final Packer packer = new Packer();
    private final PlainSection[] kinds = new PlainSection[KINDS];
    private int keptImages;
    private long traced;

    public TriangleRest() {
        kinds[0] = new PlainSection();
        kinds[1] = new Theme();
        kinds[2] = new Bridge();
        kinds[3] = new Subject();
        kinds[4] = new Trio();
        kinds[5] = new Coda();
    }

    // ---- the piece

    public int type(int c) {
        if (!isWithin(c, 0, 255)) {
            return BAD;
        }
        return text.takes(c) ? text.size : FULL;
    }

    public int clear() {
        int had = text.size;
        text.size = 0;
        return had;
    }

    public int piece() {
        int items = text.tellTo(draft);
        if (text.fault != Text.NO_FAULT) {
            return FAULT_BASE - text.fault;
        }
        score.becomeLike(draft);
        course.begin();
        ear.heard = 0;
        keptImages = 0;
        text.size = 0;
        return items;
    }

    public int section(int s, int what) {
        if (!score.hasSection(s)) {
            return BAD;
        }
        switch (what) {
            case 0:
                return score.lengthOf(s);
            case 1:
                return score.timesOf(s);
            case 2:
                return score.whoOf(s);
            case 3:
                return oneIf(isIn(course.cut, s));
            case 4:
                return isIn(course.cut, s) ? NONE : score.firstOf(s, course.cut);
            case 5:
                return oneIf(score.canBeCut(s, course.cut, course.bar));
            default:
                return BAD;
        }
    }

    public int thing(int t) {
        return score.hasThing(t) ? score.minutesOf(t) : BAD;
    }

    public int bar(int b, int what) {
        if (!isWithin(b, 0, TOLD_AT_MOST) || !isWithin(what, 0, 3)) {
            return BAD;
        }
        int s = score.sectionAt(b, course.cut);
        int once = score.lengthOf(s);
        if (once == 0) {
            return NONE;
        }
        int within = b - score.firstOf(s, course.cut);
        switch (what) {
            case 0:
                return s;
            case 1:
                return within / once;
            case 2:
                return within % once;
            default:
                return score.whoOf(s);
        }
    }

    // ---- what is done

    public int bars(int n) {
        if (!isWithin(n, 1, STEP_AT_MOST)) {
            return BAD;
        }
        if (course.bar + n > score.barsWith(course.cut)) {
            return STATE;
        }
        course.remember();
        int note = score.noteBarWith(course.cut);
        boolean noteGoesBy = course.bar <= note && note < course.bar + n;
        if (noteGoesBy && course.count == course.bar) {
            course.struck = true;
        }
        course.bar += n;
        course.count += n;
        return course.bar;
    }

    public int slips(int d) {
        if (d == 0 || !isWithin(d, -SLIP_AT_MOST, SLIP_AT_MOST)) {
            return NO;
        }
        course.remember();
        course.count += d;
        return course.count;
    }

    public int cue() {
        int s = score.sectionBegunBy(course.bar, course.cut);
        if (!score.hasSection(s)) {
            return NO;
        }
        course.remember();
        course.count = score.nearestFirst(score.whoOf(s), course.count, course.cut);
        return course.count;
    }

    public int cuts(int s) {
        if (!score.hasSection(s)) {
            return BAD;
        }
        if (!score.canBeCut(s, course.cut, course.bar)) {
            return STATE;
        }
        course.remember();
        course.cut |= 1 << s;
        return score.barsWith(course.cut);
    }

    public int waits(int n) {
        if (!isWithin(n, 1, STEP_AT_MOST)) {
            return BAD;
        }
        if (course.waits + n > WAITS_AT_MOST) {
            return STATE;
        }
        course.remember();
        course.waits += n;
        return course.waits;
    }

    public int undo() {
        if (course.known == 0) {
            return STATE;
        }
        course.recall();
        return course.known;
    }

    public int now(int what) {
        switch (what) {
            case 0:
                return course.bar;
            case 1:
                return course.count;
            case 2:
                return course.waits;
            case 3:
                return course.cut;
            case 4:
                return oneIf(course.struck);
            case 5:
                return score.barsWith(course.cut);
            case 6:
                return score.sections == 0 ? NONE : score.noteBarWith(course.cut);
            case 7:
                return score.sections == 0 ? NO : score.noteBarWith(course.cut) - course.bar;
            case 8:
                return score.sections == 0 ? NONE : score.noteBarWith(course.cut | cuttableNow());
            default:
                return NO;
        }
    }

    // ---- cuts

    public int trim(int n) {
        if (!isWithin(n, 0, TOLD_AT_MOST)) {
            return BAD;
        }
        return score.sections == 0 ? NONE : score.fewestCuts(n, course.cut, cuttableNow());
    }

    public int odds(int x, int n, int what) {
        if (!isWithin(x, 0, 10) || !isWithin(n, 0, TOLD_AT_MOST) || !isWithin(what, 0, 1)) {
            return BAD;
        }
        if (score.sections == 0) {
            return what;
        }
        int can = cuttableNow();
        int upper = score.chancesBy(n, x, course.cut, can);
        int lower = score.weightOf(can, can, 10); // ten for each that can be cut
        int shared = greatestDivisor(lower, upper);
        if (shared == 0) {
            return what;
        }
        return what == 0 ? upper / shared : lower / shared;
    }

    // ---- what one hears

    public int hears(int later, int who) {
        if (!isWithin(later, 0, LATER_AT_MOST) || !isWithin(who, 0, PLAYERS - 1)) {
            return BAD;
        }
        return ear.takes(later, who) ? ear.heard : FULL;
    }

    public int forget() {
        int had = ear.heard;
        ear.heard = 0;
        return had;
    }

    public int places(int k) {
        if (!isWithin(k, -1, PLACE_AT_MOST)) {
            return BAD;
        }
        ear.findPlaces(score, course.cut);
        return k == -1 ? ear.placesInAll() : ear.placeOf(k);
    }

    public int listen() {
        ear.findPlaces(score, course.cut);
        return ear.placesInAll() == 0 ? NONE : ear.bestToListen(score, course.cut);
    }

    // ---- rests

    public int pack(int t) {
        if (t < -2 || t >= score.things) {
            return BAD;
        }
        int most = packer.mostThings(score, course.cut);
        if (t == -1) {
            return Integer.bitCount(most);
        }
        return t == -2 ? most : packer.restOf(t, most, score);
    }

    // ---- kinds, images

    public int mark(int kind, int s) {
        if (!isWithin(kind, 0, KINDS - 1) || !score.hasSection(s)) {
            return NO;
        }
        PlainSection asked = kinds[kind];
        return asked == null ? NO : asked.valueOf(this, s);
    }

    public int keep(int image) {
        if (!isWithin(image, 0, IMAGES - 1)) {
            return BAD;
        }
        imageOf(image).becomeLike(course);
        keptImages |= 1 << image;
        return course.bar;
    }

    public int back(int image) {
        if (!isWithin(image, 0, IMAGES - 1)) {
            return BAD;
        }
        if (!isIn(keptImages, image)) {
            return STATE;
        }
        course.becomeLike(imageOf(image));
        return course.bar;
    }

    public int count(int what) {
        switch (what) {
            case 0:
                return score.sections;
            case 1:
                return score.things;
            case 2:
                return ear.heard;
            case 3:
                return course.known;
            case 4:
                return text.size;
            default:
                return BAD;
        }
    }

    public long trace() {
        return traced;
    }

    private Course imageOf(int image) {
        return image == 0 ? firstImage : secondImage;
    }

    private int cuttableNow() {
        return score.allCuttable(course.cut, course.bar);
    }

    private static boolean isWithin(int number, int least, int most) {
        return number >= least && number <= most;
    }

    private static boolean isIn(int bits, int place) {
        return (bits >> place & 1) == 1;
    }

    private static int oneIf(boolean so) {
        return so ? 1 : 0;
    }

    private static int greatestDivisor(int a, int b) {
        int greater = a;
        int less = b;
        // Euclid's remainders at least halve every second step: 64 steps are beyond any int.
        for (int step = 0; step < 64 && less != 0; step++) {
            int rest = greater % less;
            greater = less;
            less = rest;
        }
        return greater;
    }

    /** What a text tells: sections, the note, things; and what follows from which sections are cut. */
    private static final class Score {
        final int[] lengths = new int[SECTIONS_AT_MOST];
        final int[] times = new int[SECTIONS_AT_MOST];
        final int[] players = new int[SECTIONS_AT_MOST];
        final int[] minutes = new int[THINGS_AT_MOST];
        int sections;
        int things;
        boolean noteTold;
        int toldSection;
        int toldBar;

        void begin() {
            sections = 0;
            things = 0;
            noteTold = false;
            toldSection = 0;
            toldBar = 0;
        }

        void becomeLike(Score other) {
            System.arraycopy(other.lengths, 0, lengths, 0, SECTIONS_AT_MOST);
            System.arraycopy(other.times, 0, times, 0, SECTIONS_AT_MOST);
            System.arraycopy(other.players, 0, players, 0, SECTIONS_AT_MOST);
            System.arraycopy(other.minutes, 0, minutes, 0, THINGS_AT_MOST);
            sections = other.sections;
            things = other.things;
            noteTold = other.noteTold;
            toldSection = other.toldSection;
            toldBar = other.toldBar;
        }

        void addSection(int length, int often, int who) {
            if (sections < SECTIONS_AT_MOST) {
                lengths[sections] = length;
                times[sections] = often;
                players[sections] = who;
                sections++;
            }
        }

        void addThing(int lasting) {
            if (things < THINGS_AT_MOST) {
                minutes[things] = lasting;
                things++;
            }
        }

        void tellNote(int s, int b) {
            noteTold = true;
            toldSection = s;
            toldBar = b;
        }

        boolean hasSection(int s) {
            return s >= 0 && s < sections;
        }

        boolean hasThing(int t) {
            return t >= 0 && t < things;
        }

        int lengthOf(int s) {
            return hasSection(s) ? lengths[s] : 0;
        }

        int timesOf(int s) {
            return hasSection(s) ? times[s] : 0;
        }

        int whoOf(int s) {
            return hasSection(s) ? players[s] : 0;
        }

        int minutesOf(int t) {
            return hasThing(t) ? minutes[t] : 0;
        }

        int barsOf(int s) {
            return hasSection(s) ? lengths[s] * times[s] : 0;
        }

        int noteSection() {
            return noteTold ? toldSection : sections - 1;
        }

        int firstOf(int s, int cut) {
            int first = 0;
            for (int i = 0; i < s; i++) {
                if (!isIn(cut, i)) {
                    first += barsOf(i);
                }
            }
            return first;
        }

        int barsWith(int cut) {
            return firstOf(sections, cut);
        }

        int noteBarWith(int cut) {
            int s = noteSection();
            int lastTime = firstOf(s, cut) + barsOf(s) - lengthOf(s);
            return lastTime + toldBar;
        }

        /** The section that bar b is in, or NONE. */
        int sectionAt(int b, int cut) {
            int end = 0;
            for (int s = 0; s < sections; s++) {
                if (!isIn(cut, s)) {
                    end += barsOf(s);
                    if (b < end) {
                        return s;
                    }
                }
            }
            return NONE;
        }

        /** The section whose first bar b is, or NONE. */
        int sectionBegunBy(int b, int cut) {
            int s = sectionAt(b, cut);
            return hasSection(s) && firstOf(s, cut) == b ? s : NONE;
        }

        int nearestFirst(int who, int counted, int cut) {
            int nearest = NO;
            for (int s = 0; s < sections; s++) {
                if (!isIn(cut, s) && whoOf(s) == who) {
                    int first = firstOf(s, cut);
                    // Firsts rise with s, so that of two alike the lower one stays.
                    if (nearest == NO || Math.abs(first - counted) < Math.abs(nearest - counted)) {
                        nearest = first;
                    }
                }
            }
            return nearest;
        }

        boolean canBeCut(int s, int cut, int bar) {
            return !isIn(cut, s) && s != noteSection() && firstOf(s, cut) >= bar;
        }

        int allCuttable(int cut, int bar) {
            int can = 0;
            for (int s = 0; s < sections; s++) {
                if (canBeCut(s, cut, bar)) {
                    can |= 1 << s;
                }
            }
            return can;
        }

        /** The fewest of can (of several sets the least) that bring the note to bar n, or NONE. */
        int fewestCuts(int n, int cut, int can) {
            int fewest = NONE;
            for (int set = 0; set <= can; set++) {
                boolean fewer = fewest == NONE || Integer.bitCount(set) < Integer.bitCount(fewest);
                if (fewer && (set & ~can) == 0 && noteBarWith(cut | set) == n) {
                    fewest = set;
                }
            }
            return fewest;
        }

        /** How many of the 10 by 10 by .. ways, one factor for each of can, have the note by bar n. */
        int chancesBy(int n, int x, int cut, int can) {
            int chances = 0;
            for (int set = 0; set <= can; set++) {
                if ((set & ~can) == 0 && noteBarWith(cut | set) <= n) {
                    chances += weightOf(set, can, x);
                }
            }
            return chances;
        }

        /** x for each of can that is in set, 10 less x for each that is not, all multiplied. */
        int weightOf(int set, int can, int x) {
            int weight = 1;
            for (int s = 0; s < sections; s++) {
                if (isIn(can, s)) {
                    weight *= isIn(set, s) ? x : 10 - x;
                }
            }
            return weight;
        }
    }

    /** What has been done so far, and as much of what was ahead of it as may be undone. */
    private static final class Course {
        static final int KNOWN_AT_MOST = 10;
        static final int WIDTH = 5;

        int bar;
        int count;
        int waits;
        int cut;
        boolean struck;
        int known;
        final int[] past = new int[KNOWN_AT_MOST * WIDTH];

        void begin() {
            bar = 0;
            count = 0;
            waits = 0;
            cut = 0;
            struck = false;
            known = 0;
        }

        void becomeLike(Course other) {
            bar = other.bar;
            count = other.count;
            waits = other.waits;
            cut = other.cut;
            struck = other.struck;
            known = other.known;
            System.arraycopy(other.past, 0, past, 0, KNOWN_AT_MOST * WIDTH);
        }

        void remember() {
            if (known >= KNOWN_AT_MOST) {
                System.arraycopy(past, WIDTH, past, 0, (KNOWN_AT_MOST - 1) * WIDTH);
                known = KNOWN_AT_MOST - 1;
            }
            int at = known * WIDTH;
            if (at >= 0 && at + WIDTH <= past.length) {
                past[at] = bar;
                past[at + 1] = count;
                past[at + 2] = waits;
                past[at + 3] = cut;
                past[at + 4] = oneIf(struck);
                known++;
            }
        }

        void recall() {
            int at = (known - 1) * WIDTH;
            if (at >= 0 && at + WIDTH <= past.length) {
                known--;
                bar = past[at];
                count = past[at + 1];
                waits = past[at + 2];
                cut = past[at + 3];
                struck = past[at + 4] == 1;
            }
        }
    }

    /** The text: its bytes, and how they are read token by token. */
    private static final class Text {
        static final int BYTES_AT_MOST = 120;
        static final int NO_FAULT = -1;
        static final int END = 0, LETTERS = 1, NUMBER = 2, SEMICOLON = 3, NO_TOKEN = 4;
        static final int NUMBER_AT_MOST = 99;

        final int[] bytes = new int[BYTES_AT_MOST];
        int size;
        int fault = NO_FAULT;
        private int next;
        private int tokenAt;
        private int tokenIs;
        private int tokenValue;

        boolean takes(int c) {
            if (size >= BYTES_AT_MOST) {
                return false;
            }
            bytes[size] = c;
            size++;
            return true;
        }

        /** Reads it all to a score: how many items; fault tells whether it could be. */
        int tellTo(Score score) {
            score.begin();
            fault = NO_FAULT;
            next = 0;
            int items = 0;
            readToken();
            // Each item takes a byte at least, so that there are no more items than bytes.
            while (tokenIs != END && fault == NO_FAULT && items < BYTES_AT_MOST) {
                readItem(score);
                items++;
                readToken();
            }
            return items;
        }

        private void readItem(Score score) {
            int begins = tokenIs == LETTERS ? tokenValue : 0;
            if (begins == 's' && score.sections < SECTIONS_AT_MOST) {
                int length = readNumber(1, LONG_AT_MOST);
                int often = readNumber(1, TIMES_AT_MOST);
                int who = readNumber(0, PLAYERS - 1);
                score.addSection(length, often, who);
            } else if (begins == 'n' && !score.noteTold) {
                int s = readNumber(0, score.sections - 1);
                int b = readNumber(0, score.lengthOf(s) - 1);
                score.tellNote(s, b);
            } else if (begins == 't' && score.things < THINGS_AT_MOST) {
                score.addThing(readNumber(1, MINUTES_AT_MOST));
            } else {
                failHere();
            }
            readSemicolon();
        }

        /** A number as told, or NONE; what stands behind the first fault is not read any more. */
        private int readNumber(int least, int most) {
            if (fault != NO_FAULT) {
                return NONE;
            }
            readToken();
            if (tokenIs == NUMBER && isWithin(tokenValue, least, most)) {
                return tokenValue;
            }
            failHere();
            return NONE;
        }

        private void readSemicolon() {
            if (fault == NO_FAULT) {
                readToken();
                if (tokenIs != SEMICOLON) {
                    failHere();
                }
            }
        }

        private void failHere() {
            fault = tokenAt;
        }

        private void readToken() {
            for (int i = next; i < size && byteAt(i) == ' '; i++) {
                next = i + 1;
            }
            tokenAt = next;
            int first = byteAt(next);
            if (next >= size) {
                tokenIs = END;
            } else if (isWithin(first, 'a', 'z')) {
                takeLetters();
            } else if (isWithin(first, '0', '9')) {
                takeDigits();
            } else {
                tokenIs = first == ';' ? SEMICOLON : NO_TOKEN;
                next++;
            }
        }

        private void takeLetters() {
            tokenIs = LETTERS;
            for (int i = next; i < size && isWithin(byteAt(i), 'a', 'z'); i++) {
                next = i + 1;
            }
            // No item begins with more than one letter.
            tokenValue = next - tokenAt == 1 ? byteAt(tokenAt) : 0;
        }

        private void takeDigits() {
            int value = 0;
            for (int i = next; i < size && isWithin(byteAt(i), '0', '9'); i++) {
                value = Math.min(value * 10 + byteAt(i) - '0', NUMBER_AT_MOST + 1);
                next = i + 1;
            }
            boolean zeroAhead = byteAt(tokenAt) == '0' && next - tokenAt > 1;
            tokenIs = zeroAhead || value > NUMBER_AT_MOST ? NO_TOKEN : NUMBER;
            tokenValue = value;
        }

        private int byteAt(int i) {
            return i >= 0 && i < BYTES_AT_MOST ? bytes[i] : 0;
        }
    }

    /** What was heard, and the bars at which all of it is so. */
    private static final class Ear {
        static final int HEARD_AT_MOST = 4;

        final int[] laters = new int[HEARD_AT_MOST];
        final int[] players = new int[HEARD_AT_MOST];
        int heard;
        /** Who plays each bar of the piece. */
        private final int[] playing = new int[BARS_AT_MOST];
        /** How many places there are ahead of each bar, and of the end. */
        private final int[] placesAhead = new int[BARS_AT_MOST + 1];
        private final int[] answers = new int[PLAYERS + 1];
        private int bars;

        boolean takes(int later, int who) {
            if (heard >= HEARD_AT_MOST) {
                return false;
            }
            laters[heard] = later;
            players[heard] = who;
            heard++;
            return true;
        }

        void findPlaces(Score score, int cut) {
            layOut(score, cut);
            placesAhead[0] = 0;
            for (int b = 0; b < bars && b < BARS_AT_MOST; b++) {
                placesAhead[b + 1] = placesAhead[b] + oneIf(isPlace(b));
            }
        }

        private void layOut(Score score, int cut) {
            bars = 0;
            for (int s = 0; s < score.sections; s++) {
                int played = isIn(cut, s) ? 0 : score.barsOf(s);
                for (int i = 0; i < played && bars < BARS_AT_MOST; i++) {
                    playing[bars] = score.whoOf(s);
                    bars++;
                }
            }
        }

        private boolean isPlace(int b) {
            for (int h = 0; h < heard && h < HEARD_AT_MOST; h++) {
                int then = b + laters[h];
                if (then < 0 || then >= bars || playing[then] != players[h]) {
                    return false;
                }
            }
            return true;
        }

        int placesInAll() {
            return placesAheadOf(bars);
        }

        private int placesAheadOf(int b) {
            int at = Math.max(0, Math.min(b, bars));
            return at <= BARS_AT_MOST ? placesAhead[at] : 0;
        }

        /** The k-th place, or NONE. */
        int placeOf(int k) {
            for (int b = 0; b < bars; b++) {
                if (placesAheadOf(b + 1) == k + 1) {
                    return b;
                }
            }
            return NONE;
        }

        int bestToListen(Score score, int cut) {
            int best = 0;
            int least = greatestAnswer(0, score, cut);
            for (int later = 1; later <= LATER_AT_MOST; later++) {
                int greatest = greatestAnswer(later, score, cut);
                if (greatest < least) {
                    least = greatest;
                    best = later;
                }
            }
            return best;
        }

        /** The most places that have one answer in common, if one listens so many bars later. */
        private int greatestAnswer(int later, Score score, int cut) {
            for (int a = 0; a < answers.length; a++) {
                answers[a] = 0;
            }
            int end = 0;
            for (int s = 0; s < score.sections; s++) {
                int first = end;
                end += isIn(cut, s) ? 0 : score.barsOf(s);
                int who = score.whoOf(s);
                if (isWithin(who, 0, PLAYERS - 1)) {
                    answers[who] += placesAheadOf(end - later) - placesAheadOf(first - later);
                }
            }
            answers[PLAYERS] = placesInAll() - placesAheadOf(end - later);
            int greatest = 0;
            for (int a = 0; a < answers.length; a++) {
                greatest = Math.max(greatest, answers[a]);
            }
            return greatest;
        }
    }

    /** Which things fit into the rests, and where. */
    private static final class Packer {
        static final int SETS = 1 << THINGS_AT_MOST;

        /** Minutes left in each section; none in what is no rest. */
        private final int[] rooms = new int[SECTIONS_AT_MOST];
        private final int[] setMinutes = new int[SETS];
        /** For each section and each set of things: whether it fits into this section and later ones. */
        private final boolean[] fits = new boolean[(SECTIONS_AT_MOST + 1) * SETS];

        /** The least of the greatest sets of things that can be done, as bits. */
        int mostThings(Score score, int cut) {
            findRooms(score, cut);
            findSetMinutes(score);
            int all = (1 << score.things) - 1;
            findFits(all);
            int most = 0;
            for (int set = 1; set <= all; set++) {
                if (Integer.bitCount(set) > Integer.bitCount(most) && doesFit(0, set)) {
                    most = set;
                }
            }
            return most;
        }

        /** In which section thing t is done, if just those of set are done, or NONE; mostThings goes ahead. */
        int restOf(int t, int set, Score score) {
            int left = set;
            int rest = NONE;
            for (int i = 0; i <= t; i++) {
                rest = NONE;
                if (isIn(set, i)) {
                    left &= ~(1 << i);
                    rest = takeLowestRoom(score.minutesOf(i), left);
                }
            }
            return rest;
        }

        private void findRooms(Score score, int cut) {
            for (int s = 0; s < SECTIONS_AT_MOST; s++) {
                boolean isRest = !isIn(cut, s) && score.whoOf(s) != BRASS;
                rooms[s] = isRest ? score.barsOf(s) : 0;
            }
        }

        private void findSetMinutes(Score score) {
            for (int set = 0; set < SETS; set++) {
                int sum = 0;
                for (int t = 0; t < THINGS_AT_MOST; t++) {
                    sum += isIn(set, t) ? score.minutesOf(t) : 0;
                }
                setMinutes[set] = sum;
            }
        }

        /** Finds, for all parts of a set, whether they fit into the rooms as they are left. */
        private void findFits(int all) {
            for (int set = 0; set < SETS; set++) {
                fits[SECTIONS_AT_MOST * SETS + set] = set == 0;
            }
            for (int s = SECTIONS_AT_MOST - 1; s >= 0; s--) {
                for (int set = 0; set < SETS; set++) {
                    fits[s * SETS + set] = (set & ~all) == 0 && fitsWithShare(rooms[s], s + 1, set);
                }
            }
        }

        /** Whether a set fits, a share of it (or none) into a room, the others into later sections. */
        private boolean fitsWithShare(int room, int later, int set) {
            if (doesFit(later, set)) {
                return true;
            }
            for (int share = set; share > 0; share = (share - 1) & set) {
                if (minutesOfSet(share) <= room && doesFit(later, set & ~share)) {
                    return true;
                }
            }
            return false;
        }

        private int minutesOfSet(int set) {
            return set >= 0 && set < SETS ? setMinutes[set] : 0;
        }

        private boolean doesFit(int s, int set) {
            int at = s * SETS + set;
            return at >= 0 && at < fits.length && fits[at];
        }

        /** Takes minutes from the lowest room by which what is left still fits: which section, or NONE. */
        private int takeLowestRoom(int minutes, int left) {
            for (int s = 0; s < SECTIONS_AT_MOST; s++) {
                if (rooms[s] >= minutes) {
                    rooms[s] -= minutes;
                    findFits(left);
                    if (doesFit(0, left)) {
                        return s;
                    }
                    rooms[s] += minutes;
                }
            }
            return NONE;
        }
    }

    /** Kind 0, a section as such; the kinds below ask the one above them for its value. */
    private static class PlainSection {
        int valueOf(TriangleRest rest, int s) {
            rest.traced += 1;
            return rest.score.lengthOf(s);
        }
    }

    private static class Theme extends PlainSection {
        int valueOf(TriangleRest rest, int s) {
            rest.traced += 10;
            return super.valueOf(rest, s) + rest.score.timesOf(s);
        }
    }

    private static class Bridge extends PlainSection {
        int valueOf(TriangleRest rest, int s) {
            rest.traced += 100;
            return super.valueOf(rest, s) - rest.score.whoOf(s);
        }
    }

    private static final class Subject extends Theme {
        int valueOf(TriangleRest rest, int s) {
            rest.traced += 1000;
            return super.valueOf(rest, s) * 2;
        }
    }

    private static final class Trio extends Bridge {
        int valueOf(TriangleRest rest, int s) {
            rest.traced += 10000;
            return super.valueOf(rest, s) + s;
        }
    }

    private static final class Coda extends PlainSection {
        int valueOf(TriangleRest rest, int s) {
            rest.traced += 100000;
            return super.valueOf(rest, s) + rest.course.bar;
        }
    }
}
