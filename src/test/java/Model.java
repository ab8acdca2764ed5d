import java.util.ArrayList;
import java.util.HashMap;
import java.util.HashSet;
import java.util.List;
import java.util.Map;
import java.util.Set;
import java.util.regex.Matcher;
import java.util.regex.Pattern;
import java.math.BigInteger;

/** The document once more, written slowly and in another way, to hold the class against. */
final class Model {
    static final int BAD = -1, NO = -2, FULL = -3, NONE = -4;
    private static final Pattern SOURCE = Pattern.compile("v([0-9]{1,4})");
    private static final Pattern STAGE = Pattern.compile(
            "s([0-9]{1,4}),([0-9]{1,4}),([0-9]{1,4}),([0-9]{1,4}),([0-9]{1,4}),(-?[0-9]{1,4}),([0-9]{1,4})");
    private static final int[][] RANGES = {{1, 50}, {800, 1200}, {1, 99}, {1, 9}, {0, 2}, {-50, 50}, {0, 9}};

    /** All that an undo brings back; never changed once it is kept. */
    private static final class State {
        int source = 1000;
        int ticks = 0;
        List<int[]> given = new ArrayList<>();
        List<Integer> taps = new ArrayList<>();
        List<Integer> counts = new ArrayList<>();
        List<Integer> wanted = new ArrayList<>();
        Set<Integer> stuck = new HashSet<>();
        List<int[]> steps = new ArrayList<>();

        State copy() {
            State s = new State();
            s.source = source;
            s.ticks = ticks;
            for (int[] row : given) {
                s.given.add(row.clone());
            }
            s.taps.addAll(taps);
            s.counts.addAll(counts);
            s.wanted.addAll(wanted);
            s.stuck.addAll(stuck);
            s.steps.addAll(steps);
            return s;
        }

        int size() {
            return given.size();
        }

        int flow(int i) {
            return i == size() ? 0 : given.get(i)[5] + flow(i + 1);
        }

        int in(int i) {
            return i == 0 ? source : out(i - 1) - given.get(i - 1)[6] * flow(i) / 10;
        }

        int out(int i) {
            return in(i) * (1000 + taps.get(i) * given.get(i)[0]) / 1000;
        }

        int band(int i) {
            int[] g = given.get(i);
            return out(i) < g[1] - g[2] ? 1 : out(i) > g[1] + g[2] ? 2 : 0;
        }

        /** 1 up, -1 down, 0 nothing. */
        int sign(int i) {
            int sign = band(i) == 1 ? 1 : band(i) == 2 ? -1 : 0;
            int rule = given.get(i)[4];
            return flow(i) < 0 && rule == 1 ? 0 : flow(i) < 0 && rule == 2 ? -sign : sign;
        }

        boolean can(int i) {
            return sign(i) != 0 && !stuck.contains(i) && Math.abs(taps.get(i) + sign(i)) <= 5;
        }

        boolean quiet() {
            for (int i = 0; i < size(); i++) {
                if (can(i)) {
                    return false;
                }
            }
            return true;
        }

        int off() {
            int off = 0;
            for (int i = 0; i < size(); i++) {
                off += Math.abs(out(i) - given.get(i)[1]);
            }
            return off;
        }

        State ticked() {
            State next = copy();
            Set<Integer> called = new HashSet<>();
            for (int i = 0; i < size(); i++) {
                int count = sign(i) == 0 ? 0 : sign(i) == wanted.get(i) ? counts.get(i) + 1 : 1;
                next.counts.set(i, count);
                next.wanted.set(i, sign(i));
                if (count >= given.get(i)[3]) {
                    called.add(i);
                }
            }
            boolean more = true;
            while (more) {
                more = false;
                for (int i : new ArrayList<>(called)) {
                    int k = i + 1;
                    while (k < size() && sign(k) == 0) {
                        k++;
                    }
                    if (!can(i) && k < size() && called.add(k)) {
                        more = true;
                    }
                }
            }
            for (int i = 0; i < size(); i++) {
                if (called.contains(i)) {
                    if (can(i)) {
                        next.taps.set(i, taps.get(i) + sign(i));
                        next.steps.add(new int[] {ticks, i, sign(i) > 0 ? 1 : 2});
                    }
                    next.counts.set(i, 0);
                    next.wanted.set(i, 0);
                }
            }
            next.ticks++;
            return next;
        }

        String like() {
            return taps + "/" + counts + "/" + wanted;
        }

        int back() {
            Map<Integer, Integer> last = new HashMap<>();
            int back = 0;
            for (int[] step : steps) {
                Integer was = last.put(step[1], step[2]);
                back += was != null && was != step[2] ? 1 : 0;
            }
            return back;
        }

        List<int[]> told() {
            return steps.subList(Math.max(0, steps.size() - 20), steps.size());
        }
    }

    private String text = "";
    private State now;
    private final List<State> past = new ArrayList<>();

    Model() {
        text = "v1010;s10,1000,12,2,0,20,8;s15,1000,16,3,2,15,9;s20,990,25,5,1,-12,6;s12,985,20,6,0,18,4;";
        lay();
        text = "";
    }

    private State read(int[] fault) {
        State s = new State();
        fault[0] = NONE;
        int start = 0;
        while (start < text.length()) {
            int end = text.indexOf(';', start);
            if (end < 0 || !readItem(s, text.substring(start, end))) {
                fault[0] = start;
                return s;
            }
            start = end + 1;
        }
        return s;
    }

    private boolean readItem(State s, String item) {
        Matcher v = SOURCE.matcher(item);
        if (v.matches()) {
            int value = Integer.parseInt(v.group(1));
            s.source = value;
            return value >= 800 && value <= 1200;
        }
        Matcher m = STAGE.matcher(item);
        if (!m.matches() || s.size() == 4) {
            return false;
        }
        int[] row = new int[7];
        for (int k = 0; k < 7; k++) {
            String told = m.group(k + 1);
            row[k] = Integer.parseInt(told);
            boolean minusNought = told.startsWith("-") && row[k] == 0;
            if (minusNought || row[k] < RANGES[k][0] || row[k] > RANGES[k][1]) {
                return false;
            }
        }
        s.given.add(row);
        s.taps.add(0);
        s.counts.add(0);
        s.wanted.add(0);
        return true;
    }

    private void change() {
        past.add(now);
        if (past.size() > 6) {
            past.remove(0);
        }
        now = now.copy();
    }

    private boolean isStage(int i) {
        return 0 <= i && i < now.size();
    }

    int write(int letter) {
        if (letter < 32 || letter > 126) {
            return BAD;
        }
        if (text.length() == 200) {
            return FULL;
        }
        text += (char) letter;
        return text.length();
    }

    int wipe() {
        int was = text.length();
        text = "";
        return was;
    }

    int fault() {
        int[] fault = new int[1];
        read(fault);
        return fault[0];
    }

    int lay() {
        int[] fault = new int[1];
        State s = read(fault);
        if (fault[0] != NONE || s.size() == 0) {
            return NO;
        }
        now = s;
        past.clear();
        return s.size();
    }

    int source(int v) {
        if (v < 800 || v > 1200) {
            return BAD;
        }
        if (v == now.source) {
            return NO;
        }
        change();
        int was = now.source;
        now.source = v;
        return was;
    }

    int tell(int i, int what, int v) {
        if (!isStage(i) || what < 0 || what > 2) {
            return BAD;
        }
        int[] low = {950, 995, 1};
        int[] high = {1050, 1005, 9};
        if (v < low[what] || v > high[what]) {
            return BAD;
        }
        int was = stage(i, new int[] {5, 7, 3}[what]);
        if (was == v) {
            return NO;
        }
        change();
        if (what == 0) {
            now.given.get(i)[5] = v - 1000;
        } else if (what == 1) {
            now.taps.set(i, v - 1000);
        } else {
            now.given.get(i)[3] = v;
        }
        return was;
    }

    int stick(int i, int is) {
        if (!isStage(i) || is < 0 || is > 1) {
            return BAD;
        }
        if (now.stuck.contains(i) == (is == 1)) {
            return NO;
        }
        change();
        if (is == 1) {
            now.stuck.add(i);
        } else {
            now.stuck.remove(i);
        }
        return now.stuck.size();
    }

    int tick(int n) {
        if (n < 1 || n > 50) {
            return BAD;
        }
        if (now.ticks > 9999 - n) {
            return NO;
        }
        change();
        int ahead = now.steps.size();
        for (int k = 0; k < n; k++) {
            now = now.ticked();
        }
        return now.steps.size() - ahead;
    }

    int undo() {
        if (past.isEmpty()) {
            return NO;
        }
        now = past.remove(past.size() - 1);
        return past.size();
    }

    int stage(int i, int what) {
        if (!isStage(i) || what < 0 || what > 15) {
            return BAD;
        }
        int[] g = now.given.get(i);
        int[] all = {g[0], g[1], g[2], g[3], g[4], g[5] + 1000, g[6], now.taps.get(i) + 1000,
            now.stuck.contains(i) ? 1 : 0, now.flow(i) + 1000, now.in(i) + 1000, now.out(i) + 1000,
            now.band(i), now.sign(i) == 1 ? 1 : now.sign(i) == -1 ? 2 : 0, now.counts.get(i), now.can(i) ? 1 : 0};
        return all[what];
    }

    int done(int k, int what) {
        if (k < 0 || what < 0 || what > 2) {
            return BAD;
        }
        List<int[]> told = now.told();
        return k >= told.size() ? NONE : told.get(told.size() - 1 - k)[what];
    }

    int settle(int what) {
        if (what < 0 || what > 3) {
            return BAD;
        }
        Map<String, State> seen = new HashMap<>();
        State s = now;
        while (s.ticks - now.ticks <= 300) {
            if (s.quiet()) {
                return what == 0 ? s.ticks - now.ticks : NONE;
            }
            State first = seen.putIfAbsent(s.like(), s);
            if (first != null) {
                return new int[] {NONE, first.ticks - now.ticks, s.ticks - first.ticks,
                    s.steps.size() - first.steps.size()}[what];
            }
            s = s.ticked();
        }
        return NONE;
    }

    int best(int i) {
        if (i != -1 && !isStage(i)) {
            return BAD;
        }
        int least = Integer.MAX_VALUE;
        List<Integer> taps = null;
        int all = (int) Math.pow(11, now.size());
        for (int code = 0; code < all; code++) {
            State s = now.copy();
            int rest = code;
            boolean fits = true;
            for (int k = now.size() - 1; k >= 0; k--) {
                int tap = rest % 11 - 5;
                rest /= 11;
                fits &= !now.stuck.contains(k) || tap == now.taps.get(k);
                s.taps.set(k, tap);
            }
            if (fits && s.off() < least) {
                least = s.off();
                taps = s.taps;
            }
        }
        return i == -1 ? least : taps.get(i) + 1000;
    }

    long ratio(int i, int part) {
        if (!isStage(i) || part < 0 || part > 1) {
            return BAD;
        }
        BigInteger above = BigInteger.ONE;
        BigInteger below = BigInteger.ONE;
        for (int k = 0; k <= i; k++) {
            above = above.multiply(BigInteger.valueOf(1000 + now.taps.get(k) * now.given.get(k)[0]));
            below = below.multiply(BigInteger.valueOf(1000));
        }
        BigInteger common = above.gcd(below);
        return (part == 0 ? above : below).divide(common).longValueExact();
    }

    int graded(int g) {
        if (g < 0 || g > 9) {
            return BAD;
        }
        for (int i = 0; i + 1 < now.size(); i++) {
            if (now.given.get(i + 1)[3] - now.given.get(i)[3] < g) {
                return 0;
            }
        }
        return 1;
    }

    int waits(int i, int g) {
        if (!isStage(i) || g < 0 || g > 9) {
            return BAD;
        }
        int own = now.given.get(i)[3];
        return i == 0 ? own : Math.max(own, waits(i - 1, g) + g);
    }

    int count(int what) {
        int good = 0;
        for (int i = 0; i < now.size(); i++) {
            good += now.band(i) == 0 ? 1 : 0;
        }
        Set<String> unlike = new HashSet<>();
        for (int[] step : now.told()) {
            unlike.add(step[1] + " " + step[2]);
        }
        int[] all = {now.size(), now.source, now.ticks, now.steps.size(), now.back(), good, now.stuck.size(),
            now.off(), past.size(), text.length(), now.quiet() ? 1 : 0, unlike.size()};
        return what < 0 || what >= all.length ? BAD : all[what];
    }
}
