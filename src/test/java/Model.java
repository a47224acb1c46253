import java.util.ArrayDeque;
import java.util.ArrayList;
import java.util.Deque;
import java.util.HashMap;
import java.util.List;
import java.util.Map;

/**
 * The document told again in its plainest form: every distance is tried, nothing is remembered
 * between calls, the text is read by the grammar and not by a table. It shares no code with PhaseCells.
 */
final class Model {
    private static final int NONE = -10001, BAD = -10002, NO = -10003, FULL = -10004;
    private static final int[][] SETTING_RANGES = {{0, 50}, {0, 2000}, {1, 4095}, {100, 9999}, {1, 500}, {0, 500}};
    private static final Map<Character, Integer> NUMBERS = Map.of('g', 2, 'v', 2, 's', 2, 'e', 5, 'l', 4, 'c', 3);

    /** What back() brings back. */
    private static final class Held {
        int w = 3, h = 3;
        int[] wave = {500, 700, 1100};
        int[] setting = {4, 20, 4000, 5000, 50, 10};
        int[][][][][] a = new int[2][4][4][3][4];

        Held copy() {
            Held c = new Held();
            c.w = w;
            c.h = h;
            c.wave = wave.clone();
            c.setting = setting.clone();
            for (int e = 0; e < 2; e++) {
                for (int y = 0; y < 4; y++) {
                    for (int x = 0; x < 4; x++) {
                        for (int k = 0; k < 3; k++) {
                            c.a[e][y][x][k] = a[e][y][x][k].clone();
                        }
                    }
                }
            }
            return c;
        }
    }

    private record Order(char letter, List<Integer> n) { }

    private Held held = new Held();
    private final Deque<Held> states = new ArrayDeque<>();
    private final StringBuilder text = new StringBuilder();
    private final Map<Integer, Integer> refusals = new HashMap<>();

    /** Any call of the face by its name. */
    long call(String name, int... n) {
        long answer = answer(name, n);
        if (!name.equals("does") && isRefusal(name, answer)) {
            refusals.merge((int) answer, 1, Integer::sum);
        }
        return answer;
    }

    private static boolean isRefusal(String name, long answer) {
        return !name.equals("digest") && (answer == BAD || answer == NO || answer == FULL);
    }

    private long answer(String name, int... n) {
        switch (name) {
            case "grid": case "wave": case "sets": case "sample": case "echo": case "shines": case "clears": {
                Held was = held.copy();
                long answer = change(name, n);
                if (answer != BAD) {
                    keep(was);
                }
                return answer;
            }
            case "raw": return cellOk(n) && rateOk(n[3]) && in(n[4], 0, 3) ? a(n, n[3])[n[4]] : BAD;
            case "of": return cellOk(n) && rateOk(n[3]) && in(n[4], 0, 3) ? ofRate(n, n[3], n[4]) : BAD;
            case "bits": return cellOk(n) && rateOk(n[3]) && in(n[4], 0, 1) ? bitsOf(n, n[3], n[4]) : BAD;
            case "wraps":
                if (!cellOk(n) || !rateOk(n[3])) {
                    return BAD;
                }
                return markOf(n) == 0 ? best(n, 0, 1, 2) / held.wave[n[3]] : NO;
            case "away":
                if (!cellOk(n) || !rateOk(n[3]) || !in(n[4], 0, 9999)) {
                    return BAD;
                }
                return s(n, n[3]) == 0 ? NO : awayOf(n, n[3], n[4]);
            case "mark": return cellOk(n) ? markOf(n) : BAD;
            case "cell": return cellOk(n) && in(n[3], 0, 3) ? cellOf(n, n[3]) : BAD;
            case "glow": return cellOk(n) ? Float.floatToIntBits(glowOf(n)) : BAD;
            case "motion": return cellOk(0, n[0], n[1]) ? motionOf(n[0], n[1]) : BAD;
            case "marks": return in(n[0], 0, 1) && in(n[1], 0, 5) ? countMarks(n[0], n[1]) : BAD;
            case "moved": return countMoved();
            case "mean": return in(n[0], 0, 1) ? Double.doubleToLongBits(meanOf(n[0])) : BAD;
            case "told": return in(n[0], 0, 10) ? toldOf(n[0]) : BAD;
            case "type":
                if (!in(n[0], 0, 127)) {
                    return BAD;
                }
                return text.length() >= 150 ? FULL : text.append((char) n[0]).length();
            case "clear": {
                int had = text.length();
                text.setLength(0);
                return had;
            }
            case "does": return doesAll();
            case "back":
                if (states.isEmpty()) {
                    return NO;
                }
                held = states.removeLast();
                return states.size();
            case "refused": return in(n[0], 0, 4) ? refusedOf(n[0]) : BAD;
            case "digest": return digestAll();
            default: throw new IllegalArgumentException(name);
        }
    }

    private void keep(Held was) {
        states.addLast(was);
        if (states.size() > 5) {
            states.removeFirst();
        }
    }

    private static boolean in(int v, int least, int most) {
        return least <= v && v <= most;
    }

    private static boolean rateOk(int k) {
        return in(k, 0, 2);
    }

    private boolean cellOk(int... n) {
        return in(n[0], 0, 1) && in(n[1], 0, held.w - 1) && in(n[2], 0, held.h - 1);
    }

    private int[] a(int[] n, int k) {
        return held.a[n[0]][n[2]][n[1]][k];
    }

    // ---- changes

    private int change(String name, int... n) {
        switch (name) {
            case "grid": {
                if (!in(n[0], 1, 4) || !in(n[1], 1, 4)) {
                    return BAD;
                }
                int had = held.w * held.h;
                held.w = n[0];
                held.h = n[1];
                held.a = new int[2][4][4][3][4];
                return had;
            }
            case "wave": {
                if (!rateOk(n[0]) || !in(n[1], 10, 2000)) {
                    return BAD;
                }
                int was = held.wave[n[0]];
                held.wave[n[0]] = n[1];
                return was;
            }
            case "sets": {
                if (!in(n[0], 0, 5) || !in(n[1], SETTING_RANGES[n[0]][0], SETTING_RANGES[n[0]][1])) {
                    return BAD;
                }
                int was = held.setting[n[0]];
                held.setting[n[0]] = n[1];
                return was;
            }
            case "sample": {
                if (!cellOk(n) || !rateOk(n[3]) || !in(n[4], 0, 3) || !in(n[5], 0, 4095)) {
                    return BAD;
                }
                int was = a(n, n[3])[n[4]];
                a(n, n[3])[n[4]] = n[5];
                return was;
            }
            case "echo": return cellOk(n) && in(n[3], 0, 9999) && in(n[4], 1, 1000) ? echoInto(n) : BAD;
            case "shines": return cellOk(n) && in(n[3], 1, 4095) ? lightInto(n) : BAD;
            case "clears": return cellOk(n) ? darkInto(n) : BAD;
            default: throw new IllegalArgumentException(name);
        }
    }

    private int echoInto(int[] n) {
        int s = n[4];
        for (int k = 0; k < 3; k++) {
            int wave = held.wave[k];
            int r = n[3] % wave;
            float t = 4f * (float) r;
            t = t / (float) wave;
            int quarter = t < 1f ? 0 : t < 2f ? 1 : t < 3f ? 2 : 3;
            int b = (int) ((float) s * (t - (float) quarter));
            int x = new int[] {s - b, -b, b - s, b}[quarter];
            int y = new int[] {b, s - b, -b, b - s}[quarter];
            int[] a = a(n, k);
            a[0] = Math.min(4095, a[0] + Math.max(x, 0));
            a[2] = Math.min(4095, a[2] + Math.max(-x, 0));
            a[1] = Math.min(4095, a[1] + Math.max(y, 0));
            a[3] = Math.min(4095, a[3] + Math.max(-y, 0));
        }
        return count(n, 4095, 4095);
    }

    private int lightInto(int[] n) {
        for (int k = 0; k < 3; k++) {
            for (int i = 0; i < 4; i++) {
                a(n, k)[i] = Math.min(4095, a(n, k)[i] + n[3]);
            }
        }
        return count(n, 4095, 4095);
    }

    private int darkInto(int[] n) {
        int lit = count(n, 1, 4095);
        for (int k = 0; k < 3; k++) {
            held.a[n[0]][n[2]][n[1]][k] = new int[4];
        }
        return lit;
    }

    private int count(int[] n, int least, int most) {
        int count = 0;
        for (int k = 0; k < 3; k++) {
            for (int v : a(n, k)) {
                count += in(v, least, most) ? 1 : 0;
            }
        }
        return count;
    }

    // ---- rates

    private int x(int[] n, int k) {
        return a(n, k)[0] - a(n, k)[2];
    }

    private int y(int[] n, int k) {
        return a(n, k)[1] - a(n, k)[3];
    }

    private int s(int[] n, int k) {
        return Math.abs(x(n, k)) + Math.abs(y(n, k));
    }

    private float strength(int[] n, int k) {
        return (float) s(n, k) / 2f;
    }

    private float phase(int[] n, int k) {
        float q = (float) y(n, k) / (float) s(n, k);
        if (x(n, k) < 0) {
            return 2f - q;
        }
        return y(n, k) >= 0 ? q : 4f + q;
    }

    private int residue(int[] n, int k) {
        float turned = phase(n, k) * (float) held.wave[k];
        turned = turned / 4f;
        turned = turned + 0.5f;
        return (int) turned % held.wave[k];
    }

    private int ofRate(int[] n, int k, int what) {
        int s = s(n, k);
        return what == 0 ? x(n, k) : what == 1 ? y(n, k) : what == 2 ? s : s == 0 ? NONE : residue(n, k);
    }

    private int bitsOf(int[] n, int k, int what) {
        return Float.floatToIntBits(what == 0 ? strength(n, k) : s(n, k) == 0 ? -1f : phase(n, k));
    }

    private int awayOf(int[] n, int k, int d) {
        return awayOf(d, residue(n, k), held.wave[k]);
    }

    private static int awayOf(int d, int residue, int wave) {
        int over = Math.floorMod(d - residue, wave);
        return Math.min(over, wave - over);
    }

    // ---- cells

    private List<Integer> fits(int[] n, int... rates) {
        int[] residues = new int[3];
        for (int k : rates) {
            residues[k] = residue(n, k);
        }
        List<Integer> all = new ArrayList<>();
        for (int d = 0; d <= held.setting[3]; d++) {
            boolean fits = true;
            for (int k : rates) {
                fits &= awayOf(d, residues[k], held.wave[k]) <= held.setting[0];
            }
            if (fits) {
                all.add(d);
            }
        }
        return all;
    }

    /** -1 where nothing fits. */
    private int best(int[] n, int... rates) {
        int best = -1;
        long least = Long.MAX_VALUE;
        for (int d : fits(n, rates)) {
            long misfit = 0;
            for (int k : rates) {
                misfit += (long) awayOf(n, k, d) * awayOf(n, k, d);
            }
            if (misfit < least) {
                least = misfit;
                best = d;
            }
        }
        return best;
    }

    private int markOf(int... n) {
        if (count(n, held.setting[2], 4095) > 0) {
            return 1;
        }
        for (int k = 0; k < 3; k++) {
            if (s(n, k) == 0 || strength(n, k) < (float) held.setting[1]) {
                return 2;
            }
        }
        List<Integer> fits = fits(n, 0, 1, 2);
        if (fits.isEmpty()) {
            return ends(n).isEmpty() ? 5 : 4;
        }
        int best = best(n, 0, 1, 2);
        for (int d : fits) {
            if (Math.abs(d - best) > 2 * held.setting[0]) {
                return 3;
            }
        }
        return 0;
    }

    private List<Integer> ends(int[] n) {
        List<Integer> ends = new ArrayList<>();
        for (int[] pair : new int[][] {{0, 1}, {0, 2}, {1, 2}}) {
            int best = best(n, pair);
            if (best >= 0) {
                ends.add(best);
            }
        }
        ends.sort(null);
        return ends;
    }

    private float glowOf(int... n) {
        float sum = strength(n, 0) + strength(n, 1);
        return sum + strength(n, 2);
    }

    private int cellOf(int[] n, int what) {
        int mark = markOf(n);
        if (what == 0) {
            return mark == 0 ? best(n, 0, 1, 2) : NO;
        }
        if (what == 3) {
            return mark == 0 ? NO : filledOf(n);
        }
        if (mark != 4) {
            return NO;
        }
        List<Integer> ends = ends(n);
        return ends.get(what == 1 ? 0 : ends.size() - 1);
    }

    private int filledOf(int[] n) {
        float u = 0f, t = 0f;
        float edge = (float) held.setting[4];
        int[][] beside = {{n[0], n[1], n[2] - 1}, {n[0], n[1] + 1, n[2]}, {n[0], n[1], n[2] + 1}, {n[0], n[1] - 1, n[2]}};
        boolean some = false;
        for (int[] b : beside) {
            if (!cellOk(b) || markOf(b) != 0) {
                continue;
            }
            float d = Math.abs(glowOf(b) - glowOf(n));
            if (d > 4f * edge) {
                continue;
            }
            float v = d / edge;
            v = 1f + v;
            v = 1f / v;
            u = u + v;
            float part = v * (float) best(b, 0, 1, 2);
            t = t + part;
            some = true;
        }
        return some ? (int) (t / u) : NONE;
    }

    private int motionOf(int x, int y) {
        int[] first = {0, x, y}, second = {1, x, y};
        return markOf(first) == 0 && markOf(second) == 0 ? best(second, 0, 1, 2) - best(first, 0, 1, 2) : NO;
    }

    private int countMarks(int e, int m) {
        int count = 0;
        for (int y = 0; y < held.h; y++) {
            for (int x = 0; x < held.w; x++) {
                count += markOf(e, x, y) == m ? 1 : 0;
            }
        }
        return count;
    }

    private int countMoved() {
        int count = 0;
        for (int y = 0; y < held.h; y++) {
            for (int x = 0; x < held.w; x++) {
                int motion = motionOf(x, y);
                count += motion != NO && Math.abs(motion) > held.setting[5] ? 1 : 0;
            }
        }
        return count;
    }

    private double meanOf(int e) {
        double sum = 0;
        int count = 0;
        for (int y = 0; y < held.h; y++) {
            for (int x = 0; x < held.w; x++) {
                int[] n = {e, x, y};
                if (markOf(n) == 0) {
                    sum += best(n, 0, 1, 2);
                    count++;
                }
            }
        }
        return count == 0 ? 0.0 : sum / count;
    }

    private int toldOf(int what) {
        return what == 0 ? held.w : what == 1 ? held.h : what < 5 ? held.wave[what - 2] : held.setting[what - 5];
    }

    // ---- texts

    /** The fault's place, or -1; the orders come into the list. */
    private int fault(List<Order> orders) {
        int at = blanks(0);
        do {
            if (at == text.length()) {
                return at;
            }
            char letter = text.charAt(at);
            if (!NUMBERS.containsKey(letter)) {
                return at;
            }
            Order order = new Order(letter, new ArrayList<>());
            at = blanks(at + 1);
            for (int i = 0; i < NUMBERS.get(letter); i++) {
                int end = figures(at);
                if (end == at || end - at == 4 && end < text.length() && figure(end)) {
                    return end;
                }
                order.n.add(Integer.parseInt(text.substring(at, end)));
                at = blanks(end);
            }
            if (at == text.length() || text.charAt(at) != ';') {
                return at;
            }
            orders.add(order);
            at = blanks(at + 1);
        } while (at < text.length());
        return -1;
    }

    private int blanks(int from) {
        int at = from;
        while (at < text.length() && text.charAt(at) == ' ') {
            at++;
        }
        return at;
    }

    private boolean figure(int at) {
        return text.charAt(at) >= '0' && text.charAt(at) <= '9';
    }

    private int figures(int from) {
        int at = from;
        while (at < text.length() && at - from < 4 && figure(at)) {
            at++;
        }
        return at;
    }

    private int doesAll() {
        List<Order> orders = new ArrayList<>();
        int fault = fault(orders);
        if (fault >= 0) {
            return -10 - fault;
        }
        Held was = held;
        held = was.copy();
        for (int i = 0; i < orders.size(); i++) {
            Order order = orders.get(i);
            String name = Map.of('g', "grid", 'v', "wave", 's', "sets", 'e', "echo", 'l', "shines", 'c', "clears")
                    .get(order.letter);
            if (change(name, order.n.stream().mapToInt(Integer::intValue).toArray()) == BAD) {
                held = was;
                return -1000 - i;
            }
        }
        keep(was);
        return orders.size();
    }

    private int refusedOf(int what) {
        return what == 3 ? text.length() : what == 4 ? states.size() : refusals.getOrDefault(BAD - what, 0);
    }

    private long digestAll() {
        long h = 1689;
        for (int what = 0; what < 5; what++) {
            h = 31 * h + refusedOf(what);
        }
        for (int what = 0; what < 11; what++) {
            h = 31 * h + toldOf(what);
        }
        for (int e = 0; e < 2; e++) {
            for (int y = 0; y < held.h; y++) {
                for (int x = 0; x < held.w; x++) {
                    int[] n = {e, x, y};
                    for (int k = 0; k < 3; k++) {
                        for (int v : a(n, k)) {
                            h = 31 * h + v;
                        }
                    }
                    int mark = markOf(n);
                    h = 31 * h + mark;
                    int[] parts = mark == 0 ? new int[] {0} : mark == 4 ? new int[] {1, 2, 3} : new int[] {3};
                    for (int what : parts) {
                        h = 31 * h + cellOf(n, what);
                    }
                }
            }
        }
        for (int e = 0; e < 2; e++) {
            h = 31 * h + Double.doubleToLongBits(meanOf(e));
        }
        return h;
    }
}
