/**
 * Regulators one behind the other on a line. DOC.md's promises say what each call answers;
 * no call makes an object: all rows are made with the object and used again.
 */
public final class TapCascade {
    public static final int BAD = -1, NO = -2, FULL = -3, NONE = -4, ZERO = 1000;

    private static final int MOST_STAGES = 4;
    private static final int MOST_LETTERS = 200;
    private static final int MOST_FIGURES = 4;
    private static final int STEPS_TOLD = 20;
    private static final int CHANGES_KEPT = 6;
    private static final int MOST_TICKS = 9999;
    private static final int TICKS_A_CALL = 50;
    private static final int TICKS_AHEAD = 300;
    private static final int MOST_GRADE = 9;

    private static final int LEAST_SOURCE = 800, MOST_SOURCE = 1200, SOURCE_UNTOLD = 1000;
    private static final int MOST_LOAD = 50, MOST_TAP = 5, LEAST_WAIT = 1, MOST_WAIT = 9;
    private static final int WHOLE = 1000;

    private static final int GOOD = 0, LOW = 1, HIGH = 2;
    private static final int NOTHING = 0, UP = 1, DOWN = 2;
    private static final int LOCKED = 1, TURNED = 2;
    private static final int TELL_LOAD = 0, TELL_TAP = 1, TELL_WAIT = 2;

    /** STEP, TARGET, BAND, WAIT, RULE, LOAD, WAY: the least and the most that a text may tell. */
    private static final int[] LEAST_TOLD = {1, 800, 1, 1, 0, -50, 0};
    private static final int[] MOST_TOLD = {50, 1200, 99, 9, 2, 50, 9};

    private static final String FIRST_TEXT =
            "v1010;s10,1000,12,2,0,20,8;s15,1000,16,3,2,15,9;s20,990,25,5,1,-12,6;s12,985,20,6,0,18,4;";

    private final Text text = new Text();
    private final Line line = new Line();
    private final Line draft = new Line();
    private final Past past = new Past();
    private final Course course = new Course();
    private final Search search = new Search();

    public TapCascade() {
        for (int i = 0; i < FIRST_TEXT.length(); i++) {
            text.append(FIRST_TEXT.charAt(i));
        }
        if (text.readInto(draft) == NONE) {
            line.copyFrom(draft);
        }
        text.length = 0;
    }

    // ---- told

    public int write(int letter) {
        if (letter < 32 || letter > 126) {
            return BAD;
        }
        return text.append(letter) ? text.length : FULL;
    }

    public int wipe() {
        int was = text.length;
        text.length = 0;
        return was;
    }

    public int fault() {
        return text.readInto(draft);
    }

    public int lay() {
        if (text.readInto(draft) != NONE || draft.size == 0) {
            return NO;
        }
        line.copyFrom(draft);
        past.forget();
        return line.size;
    }

    public int source(int v) {
        if (v < LEAST_SOURCE || v > MOST_SOURCE) {
            return BAD;
        }
        int was = line.source;
        if (was == v) {
            return NO;
        }
        past.keep(line);
        line.source = v;
        line.reckon();
        return was;
    }

    public int tell(int i, int what, int v) {
        if (!line.has(i) || !mayBeTold(what, v)) {
            return BAD;
        }
        Stage told = line.stages[i];
        int was = told.valueToTell(what);
        if (was == v) {
            return NO;
        }
        past.keep(line);
        told.takeTold(what, v);
        line.reckon();
        return was;
    }

    public int stick(int i, int is) {
        if (!line.has(i) || is < 0 || is > 1) {
            return BAD;
        }
        boolean stuck = is == 1;
        if (line.stages[i].stuck == stuck) {
            return NO;
        }
        past.keep(line);
        line.stages[i].stuck = stuck;
        return line.stuckStages();
    }

    public int tick(int n) {
        if (n < 1 || n > TICKS_A_CALL) {
            return BAD;
        }
        if (line.ticks + n > MOST_TICKS) {
            return NO;
        }
        past.keep(line);
        int ahead = line.log.total;
        for (int k = 0; k < n; k++) {
            line.runTick();
        }
        return line.log.total - ahead;
    }

    public int undo() {
        if (past.size == 0) {
            return NO;
        }
        past.giveBack(line);
        return past.size;
    }

    // ---- as it is

    public int stage(int i, int what) {
        return line.has(i) ? line.stages[i].valueOf(what) : BAD;
    }

    public int done(int k, int what) {
        if (k < 0 || what < 0 || what > 2) {
            return BAD;
        }
        return line.log.valueOf(k, what);
    }

    // ---- what comes, what is best

    public int settle(int what) {
        if (what < 0 || what > 3) {
            return BAD;
        }
        course.follow(line);
        switch (what) {
            case 0: return course.quietBehind;
            case 1: return course.roundFrom;
            case 2: return course.roundTicks;
            default: return course.roundSteps;
        }
    }

    public int best(int i) {
        if (i != -1 && !line.has(i)) {
            return BAD;
        }
        search.start(line);
        return i == -1 ? search.leastOff : search.bestTaps[i] + ZERO;
    }

    public long ratio(int i, int part) {
        if (!line.has(i) || part < 0 || part > 1) {
            return BAD;
        }
        long above = 1;
        long below = 1;
        for (int k = 0; k <= i; k++) {
            above *= line.stages[k].turned();
            below *= WHOLE;
        }
        long common = greatestCommon(above, below);
        if (common < 1) {
            return BAD;
        }
        return (part == 0 ? above : below) / common;
    }

    public int graded(int g) {
        if (!isGrade(g)) {
            return BAD;
        }
        for (int i = 1; i < line.size; i++) {
            if (line.stages[i].wait < line.stages[i - 1].wait + g) {
                return 0;
            }
        }
        return 1;
    }

    public int waits(int i, int g) {
        if (!line.has(i) || !isGrade(g)) {
            return BAD;
        }
        int least = line.stages[0].wait;
        for (int k = 1; k <= i; k++) {
            least = Math.max(line.stages[k].wait, least + g);
        }
        return least;
    }

    public int count(int what) {
        switch (what) {
            case 0: return line.size;
            case 1: return line.source;
            case 2: return line.ticks;
            case 3: return line.log.total;
            case 4: return line.log.back;
            case 5: return line.goodStages();
            case 6: return line.stuckStages();
            case 7: return line.off();
            case 8: return past.size;
            case 9: return text.length;
            case 10: return line.isQuiet() ? 1 : 0;
            case 11: return line.log.unlikeTold();
            default: return BAD;
        }
    }

    private static boolean isGrade(int g) {
        return g >= 0 && g <= MOST_GRADE;
    }

    private static boolean mayBeTold(int what, int v) {
        switch (what) {
            case TELL_LOAD: return v >= ZERO - MOST_LOAD && v <= ZERO + MOST_LOAD;
            case TELL_TAP: return v >= ZERO - MOST_TAP && v <= ZERO + MOST_TAP;
            case TELL_WAIT: return v >= LEAST_WAIT && v <= MOST_WAIT;
            default: return false;
        }
    }

    /** Euclid's way; a hundred turns are more than numbers below 2^63 can need. */
    private static long greatestCommon(long a, long b) {
        for (int turn = 0; turn < 100 && b != 0; turn++) {
            long rest = a % b;
            a = b;
            b = rest;
        }
        return a;
    }

    private static int outOf(int in, int turned) {
        return in * turned / WHOLE;
    }

    private static int lostBetween(int way, int flowBehind) {
        return way * flowBehind / 10;
    }

    /** One regulator: what a text told of it, how it stands, and what its line reckoned for it. */
    private static final class Stage {
        int step, target, band, wait, rule, load, way;
        int tap, count, wanted, lastStep;
        boolean stuck;
        int flow, in, out;

        Stage() {
        }

        void layDown(int[] told) {
            if (told.length < LEAST_TOLD.length) {
                return;
            }
            step = told[0];
            target = told[1];
            band = told[2];
            wait = told[3];
            rule = told[4];
            load = told[5];
            way = told[6];
            tap = 0;
            count = 0;
            wanted = NOTHING;
            lastStep = NOTHING;
            stuck = false;
        }

        void copyFrom(Stage other) {
            step = other.step;
            target = other.target;
            band = other.band;
            wait = other.wait;
            rule = other.rule;
            load = other.load;
            way = other.way;
            tap = other.tap;
            count = other.count;
            wanted = other.wanted;
            lastStep = other.lastStep;
            stuck = other.stuck;
            flow = other.flow;
            in = other.in;
            out = other.out;
        }

        int turned() {
            return WHOLE + tap * step;
        }

        int off() {
            return Math.abs(out - target);
        }

        int judged() {
            if (out < target - band) {
                return LOW;
            }
            return out > target + band ? HIGH : GOOD;
        }

        int wants() {
            int judged = judged();
            if (judged == GOOD || flow < 0 && rule == LOCKED) {
                return NOTHING;
            }
            boolean otherWay = flow < 0 && rule == TURNED;
            return (judged == LOW) != otherWay ? UP : DOWN;
        }

        boolean canAsItWants() {
            if (stuck) {
                return false;
            }
            switch (wants()) {
                case UP: return tap < MOST_TAP;
                case DOWN: return tap > -MOST_TAP;
                default: return false;
            }
        }

        void countOn() {
            int now = wants();
            if (now == NOTHING) {
                count = 0;
            } else {
                count = now == wanted ? count + 1 : 1;
            }
            wanted = now;
        }

        int valueToTell(int what) {
            switch (what) {
                case TELL_LOAD: return load + ZERO;
                case TELL_TAP: return tap + ZERO;
                default: return wait;
            }
        }

        void takeTold(int what, int v) {
            switch (what) {
                case TELL_LOAD: load = v - ZERO; break;
                case TELL_TAP: tap = v - ZERO; break;
                default: wait = v; break;
            }
        }

        int valueOf(int what) {
            switch (what) {
                case 0: return step;
                case 1: return target;
                case 2: return band;
                case 3: return wait;
                case 4: return rule;
                case 5: return load + ZERO;
                case 6: return way;
                case 7: return tap + ZERO;
                case 8: return stuck ? 1 : 0;
                case 9: return flow + ZERO;
                case 10: return in + ZERO;
                case 11: return out + ZERO;
                case 12: return judged();
                case 13: return wants();
                case 14: return count;
                case 15: return canAsItWants() ? 1 : 0;
                default: return BAD;
            }
        }
    }

    /** The steps done: how many, how many of them back, and the last of them in a ring. */
    private static final class StepLog {
        final int[] ticks = new int[STEPS_TOLD];
        final int[] stages = new int[STEPS_TOLD];
        final int[] ways = new int[STEPS_TOLD];
        int total, back;

        StepLog() {
        }

        void empty() {
            total = 0;
            back = 0;
        }

        void copyFrom(StepLog other) {
            System.arraycopy(other.ticks, 0, ticks, 0, STEPS_TOLD);
            System.arraycopy(other.stages, 0, stages, 0, STEPS_TOLD);
            System.arraycopy(other.ways, 0, ways, 0, STEPS_TOLD);
            total = other.total;
            back = other.back;
        }

        void add(int tick, int stage, int way) {
            int slot = total % STEPS_TOLD;
            ticks[slot] = tick;
            stages[slot] = stage;
            ways[slot] = way;
            total++;
        }

        int told() {
            return Math.min(total, STEPS_TOLD);
        }

        int valueOf(int k, int what) {
            if (k < 0 || k >= told()) {
                return NONE;
            }
            int slot = (total - 1 - k) % STEPS_TOLD;
            switch (what) {
                case 0: return ticks[slot];
                case 1: return stages[slot];
                default: return ways[slot];
            }
        }

        int unlikeTold() {
            int kinds = 0;
            for (int slot = 0; slot < told(); slot++) {
                kinds |= 1 << (stages[slot] * 2 + ways[slot] - UP);
            }
            return Integer.bitCount(kinds);
        }
    }

    /** The whole line as it stands; flow, in and out of its stages are right behind each change. */
    private static final class Line {
        final Stage[] stages = new Stage[MOST_STAGES];
        final boolean[] called = new boolean[MOST_STAGES];
        final StepLog log = new StepLog();
        int size, source, ticks;

        Line() {
            for (int i = 0; i < MOST_STAGES; i++) {
                stages[i] = new Stage();
            }
        }

        void empty() {
            size = 0;
            source = SOURCE_UNTOLD;
            ticks = 0;
            log.empty();
        }

        void copyFrom(Line other) {
            for (int i = 0; i < MOST_STAGES; i++) {
                stages[i].copyFrom(other.stages[i]);
            }
            log.copyFrom(other.log);
            size = other.size;
            source = other.source;
            ticks = other.ticks;
        }

        boolean has(int i) {
            return i >= 0 && i < size;
        }

        boolean addStage(int[] told) {
            if (size >= MOST_STAGES) {
                return false;
            }
            stages[size].layDown(told);
            size++;
            return true;
        }

        void reckon() {
            int flow = 0;
            for (int i = size - 1; i >= 0; i--) {
                flow += stages[i].load;
                stages[i].flow = flow;
            }
            int in = source;
            for (int i = 0; i < size; i++) {
                Stage s = stages[i];
                s.in = in;
                s.out = outOf(in, s.turned());
                in = s.out - lostBehind(i);
            }
        }

        int lostBehind(int i) {
            return i + 1 < size ? lostBetween(stages[i].way, stages[i + 1].flow) : 0;
        }

        void runTick() {
            for (int i = 0; i < size; i++) {
                stages[i].countOn();
                called[i] = stages[i].count >= stages[i].wait;
            }
            passCallsOn();
            for (int i = 0; i < size; i++) {
                if (called[i]) {
                    heedCall(i);
                }
            }
            ticks++;
            // not earlier: all stages step by the voltages ahead of the tick
            reckon();
        }

        void passCallsOn() {
            for (int i = 0; i < size; i++) {
                if (called[i] && !stages[i].canAsItWants()) {
                    callNextBehind(i);
                }
            }
        }

        void callNextBehind(int i) {
            for (int k = i + 1; k < size; k++) {
                if (stages[k].wants() != NOTHING) {
                    called[k] = true;
                    return;
                }
            }
        }

        void heedCall(int i) {
            Stage s = stages[i];
            if (s.canAsItWants()) {
                int way = s.wants();
                s.tap += way == UP ? 1 : -1;
                log.add(ticks, i, way);
                if (s.lastStep != NOTHING && s.lastStep != way) {
                    log.back++;
                }
                s.lastStep = way;
            }
            s.count = 0;
            s.wanted = NOTHING;
        }

        boolean isQuiet() {
            for (int i = 0; i < size; i++) {
                if (stages[i].canAsItWants()) {
                    return false;
                }
            }
            return true;
        }

        int goodStages() {
            int good = 0;
            for (int i = 0; i < size; i++) {
                good += stages[i].judged() == GOOD ? 1 : 0;
            }
            return good;
        }

        int stuckStages() {
            int stuck = 0;
            for (int i = 0; i < size; i++) {
                stuck += stages[i].stuck ? 1 : 0;
            }
            return stuck;
        }

        int off() {
            int off = 0;
            for (int i = 0; i < size; i++) {
                off += stages[i].off();
            }
            return off;
        }

        /** Taps, counts and wanted ways in one number: alike exactly if all of them are. */
        long packed() {
            long all = 0;
            for (int i = 0; i < size; i++) {
                Stage s = stages[i];
                all = all << 4 | s.tap + MOST_TAP;
                all = all << 4 | s.count;
                all = all << 2 | s.wanted;
            }
            return all;
        }
    }

    /** The line ahead of each of the last changes, in a ring. */
    private static final class Past {
        final Line[] kept = new Line[CHANGES_KEPT];
        int next, size;

        Past() {
            for (int i = 0; i < CHANGES_KEPT; i++) {
                kept[i] = new Line();
            }
        }

        void forget() {
            size = 0;
        }

        void keep(Line line) {
            kept[next].copyFrom(line);
            next = (next + 1) % CHANGES_KEPT;
            size = Math.min(size + 1, CHANGES_KEPT);
        }

        void giveBack(Line line) {
            next = (next + CHANGES_KEPT - 1) % CHANGES_KEPT;
            line.copyFrom(kept[next]);
            size--;
        }
    }

    /** What comes of a line, tried on a copy of it so that nothing changes. */
    private static final class Course {
        final Line trial = new Line();
        final long[] seen = new long[TICKS_AHEAD + 1];
        final int[] stepsBehind = new int[TICKS_AHEAD + 1];
        int quietBehind, roundFrom, roundTicks, roundSteps;

        Course() {
        }

        void follow(Line line) {
            trial.copyFrom(line);
            quietBehind = NONE;
            roundFrom = NONE;
            roundTicks = NONE;
            roundSteps = NONE;
            for (int t = 0; t <= TICKS_AHEAD; t++) {
                if (trial.isQuiet()) {
                    quietBehind = t;
                    return;
                }
                seen[t] = trial.packed();
                stepsBehind[t] = trial.log.total;
                int first = firstLike(t);
                if (first < t) {
                    roundFrom = first;
                    roundTicks = t - first;
                    roundSteps = stepsBehind[t] - stepsBehind[first];
                    return;
                }
                trial.runTick();
            }
        }

        int firstLike(int t) {
            for (int k = 0; k < t; k++) {
                if (seen[k] == seen[t]) {
                    return k;
                }
            }
            return t;
        }
    }

    /** The taps by which a line is least off. */
    private static final class Search {
        /** Each of four outs is some thousands from its target at most. */
        static final int FARTHER_THAN_ANY = 1000000;

        final int[] taps = new int[MOST_STAGES];
        final int[] bestTaps = new int[MOST_STAGES];
        int leastOff;

        Search() {
        }

        void start(Line line) {
            leastOff = FARTHER_THAN_ANY;
            tryTaps(this, line, 0, line.source, 0);
        }

        /** From the lowest taps on and only by less, so the first of several least ones stays. */
        private static void tryTaps(Search s, Line line, int i, int in, int off) {
            if (i >= line.size || i >= MOST_STAGES) {
                s.leastOff = off;
                System.arraycopy(s.taps, 0, s.bestTaps, 0, MOST_STAGES);
                return;
            }
            Stage stage = line.stages[i];
            int lowest = stage.stuck ? stage.tap : -MOST_TAP;
            int highest = stage.stuck ? stage.tap : MOST_TAP;
            for (int tap = lowest; tap <= highest; tap++) {
                int out = outOf(in, WHOLE + tap * stage.step);
                int offNow = off + Math.abs(out - stage.target);
                // what is off already never becomes less behind
                if (offNow < s.leastOff) {
                    s.taps[i] = tap;
                    tryTaps(s, line, i + 1, out - line.lostBehind(i), offNow);
                }
            }
        }
    }

    /** The text, and how it is read. */
    private static final class Text {
        static final int NO_NUMBER = 10000;

        final int[] letters = new int[MOST_LETTERS];
        final int[] told = new int[LEAST_TOLD.length];
        int length, place;

        Text() {
        }

        boolean append(int letter) {
            if (length >= MOST_LETTERS) {
                return false;
            }
            letters[length] = letter;
            length++;
            return true;
        }

        /** Answers where the first fault is, or NONE: then the draft is the line that is told. */
        int readInto(Line draft) {
            draft.empty();
            place = 0;
            for (int items = 0; items < MOST_LETTERS && place < length; items++) {
                int start = place;
                if (!readItem(draft)) {
                    return start;
                }
            }
            draft.reckon();
            return NONE;
        }

        boolean readItem(Line draft) {
            if (take('v')) {
                return readSource(draft);
            }
            return take('s') && readStage(draft);
        }

        boolean readSource(Line draft) {
            int v = readNumber(LEAST_SOURCE, MOST_SOURCE);
            if (v == NO_NUMBER || !take(';')) {
                return false;
            }
            draft.source = v;
            return true;
        }

        boolean readStage(Line draft) {
            int last = told.length - 1;
            for (int k = 0; k <= last; k++) {
                told[k] = readNumber(LEAST_TOLD[k], MOST_TOLD[k]);
                if (told[k] == NO_NUMBER || !take(k < last ? ',' : ';')) {
                    return false;
                }
            }
            return draft.addStage(told);
        }

        int readNumber(int least, int most) {
            boolean below = least < 0 && take('-');
            int figures = 0;
            int value = 0;
            while (figures < MOST_FIGURES && isFigure()) {
                value = value * 10 + letters[place] - '0';
                place++;
                figures++;
            }
            if (figures == 0 || below && value == 0) {
                return NO_NUMBER;
            }
            int number = below ? -value : value;
            return number < least || number > most ? NO_NUMBER : number;
        }

        boolean isFigure() {
            return place < length && letters[place] >= '0' && letters[place] <= '9';
        }

        boolean take(char letter) {
            if (place >= length || letters[place] != letter) {
                return false;
            }
            place++;
            return true;
        }
    }
}
