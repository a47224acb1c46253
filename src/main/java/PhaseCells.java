import java.util.Arrays;

/** Distance of cells by the phases of three rates of light; see README.md. */
public final class PhaseCells {
    public static final int NONE = -10001, BAD = -10002, NO = -10003, FULL = -10004;

    private static final int EXPOSURES = 2, SIDE = 4, CELLS = EXPOSURES * SIDE * SIDE;
    private static final int RATES = 3, PER_RATE = 4, PER_CELL = RATES * PER_RATE;
    private static final int SETTINGS = 6, NOISE = 0, LOW = 1, BRIGHT = 2, FAR = 3, EDGE = 4, STEP = 5;
    private static final int MOST_SAMPLE = 4095, MOST_DISTANCE = 9999, MOST_STRENGTH = 1000;
    private static final int LEAST_WAVE = 10, MOST_WAVE = 2000;
    private static final int MEASURED = 0, IS_BRIGHT = 1, IS_DARK = 2, DOUBTFUL = 3, MIXED = 4, UNKNOWN = 5;
    private static final int MOST_TEXT = 150, MOST_STATES = 5;
    private static final int FAULT_BASE = -10, ORDER_BASE = -1000;
    private static final long DIGEST_START = 1689L;

    private static final int[] FIRST_WAVES = {500, 700, 1100};
    private static final int[] FIRST_SETTINGS = {4, 20, 4000, 5000, 50, 10};
    private static final int[] LEAST_SETTINGS = {0, 0, 1, 100, 1, 0};
    private static final int[] MOST_SETTINGS = {50, 2000, 4095, 9999, 500, 500};

    /** Above, right, below, left. */
    private static final int[] BESIDE_X = {0, 1, 0, -1};
    private static final int[] BESIDE_Y = {-1, 0, 1, 0};

    private final Sight sight = new Sight();
    private final State now = sight.state;
    /** What was before the call that runs; scratch between calls. */
    private final State before = new State();
    private final State[] states = new State[MOST_STATES];
    private int stateCount = 0;
    private final OrderText text = new OrderText();
    private int refusedBad = 0;
    private int refusedNo = 0;
    private int refusedFull = 0;

    public PhaseCells() {
        for (int i = 0; i < MOST_STATES; i++) {
            states[i] = new State();
        }
    }

    // ---- what is told in

    public int grid(int w, int h) {
        before.copyFrom(now);
        return settle(now.layGrid(w, h));
    }

    public int wave(int k, int v) {
        before.copyFrom(now);
        return settle(now.putWave(k, v));
    }

    public int sets(int k, int v) {
        before.copyFrom(now);
        return settle(now.putSetting(k, v));
    }

    public int sample(int e, int x, int y, int k, int i, int v) {
        before.copyFrom(now);
        return settle(now.putSample(now.place(e, x, y), k, i, v));
    }

    public int echo(int e, int x, int y, int d, int s) {
        before.copyFrom(now);
        return settle(now.layEcho(now.place(e, x, y), d, s));
    }

    public int shines(int e, int x, int y, int v) {
        before.copyFrom(now);
        return settle(now.addLight(now.place(e, x, y), v));
    }

    public int clears(int e, int x, int y) {
        before.copyFrom(now);
        return settle(now.darken(now.place(e, x, y)));
    }

    // ---- rates

    public int raw(int e, int x, int y, int k, int i) {
        int cell = now.place(e, x, y);
        if (cell < 0 || !within(k, 0, RATES - 1) || !within(i, 0, PER_RATE - 1)) {
            return refuse(BAD);
        }
        return now.sampleAt(cell, k, i);
    }

    public int of(int e, int x, int y, int k, int what) {
        int cell = now.place(e, x, y);
        if (cell < 0 || !within(k, 0, RATES - 1) || !within(what, 0, 3)) {
            return refuse(BAD);
        }
        int across = now.across(cell, k);
        int along = now.along(cell, k);
        switch (what) {
            case 0: return across;
            case 1: return along;
            case 2: return Signal.size(across, along);
            default: return Signal.residue(across, along, now.waves[k]);
        }
    }

    public int bits(int e, int x, int y, int k, int what) {
        int cell = now.place(e, x, y);
        if (cell < 0 || !within(k, 0, RATES - 1) || !within(what, 0, 1)) {
            return refuse(BAD);
        }
        int across = now.across(cell, k);
        int along = now.along(cell, k);
        return Bits.ofFloat(what == 0 ? Signal.strength(across, along) : Signal.phase(across, along));
    }

    public int wraps(int e, int x, int y, int k) {
        int cell = now.place(e, x, y);
        if (cell < 0 || !within(k, 0, RATES - 1)) {
            return refuse(BAD);
        }
        int wave = now.waves[k];
        if (sight.markOf(cell) != MEASURED || wave < 1) {
            return refuse(NO);
        }
        return sight.distanceOf(cell) / wave;
    }

    public int away(int e, int x, int y, int k, int d) {
        int cell = now.place(e, x, y);
        if (cell < 0 || !within(k, 0, RATES - 1) || !within(d, 0, MOST_DISTANCE)) {
            return refuse(BAD);
        }
        int residue = Signal.residue(now.across(cell, k), now.along(cell, k), now.waves[k]);
        if (residue == NONE) {
            return refuse(NO);
        }
        return Signal.awayFrom(d, residue, now.waves[k]);
    }

    // ---- cells

    public int mark(int e, int x, int y) {
        int cell = now.place(e, x, y);
        return cell < 0 ? refuse(BAD) : sight.markOf(cell);
    }

    public int cell(int e, int x, int y, int what) {
        int cell = now.place(e, x, y);
        if (cell < 0 || !within(what, 0, 3)) {
            return refuse(BAD);
        }
        int mark = sight.markOf(cell);
        switch (what) {
            case 0: return mark == MEASURED ? sight.distanceOf(cell) : refuse(NO);
            case 1: return mark == MIXED ? sight.nearOf(cell) : refuse(NO);
            case 2: return mark == MIXED ? sight.beyondOf(cell) : refuse(NO);
            default: return mark != MEASURED ? sight.filled(e, x, y) : refuse(NO);
        }
    }

    public int glow(int e, int x, int y) {
        int cell = now.place(e, x, y);
        return cell < 0 ? refuse(BAD) : Bits.ofFloat(now.brightness(cell));
    }

    public int motion(int x, int y) {
        int first = now.place(0, x, y);
        int second = now.place(1, x, y);
        if (first < 0 || second < 0) {
            return refuse(BAD);
        }
        int shift = sight.shift(first, second);
        return shift == NONE ? refuse(NO) : shift;
    }

    public int marks(int e, int m) {
        if (!within(e, 0, EXPOSURES - 1) || !within(m, MEASURED, UNKNOWN)) {
            return refuse(BAD);
        }
        int count = 0;
        for (int y = 0; y < now.height; y++) {
            for (int x = 0; x < now.width; x++) {
                count += sight.markOf(now.place(e, x, y)) == m ? 1 : 0;
            }
        }
        return count;
    }

    public int moved() {
        int count = 0;
        for (int y = 0; y < now.height; y++) {
            for (int x = 0; x < now.width; x++) {
                int shift = sight.shift(now.place(0, x, y), now.place(1, x, y));
                count += shift != NONE && Math.abs(shift) > now.settings[STEP] ? 1 : 0;
            }
        }
        return count;
    }

    public long mean(int e) {
        return within(e, 0, EXPOSURES - 1) ? sight.meanBits(e) : refuse(BAD);
    }

    public int told(int what) {
        return within(what, 0, 10) ? now.setting(what) : refuse(BAD);
    }

    // ---- texts

    public int type(int c) {
        if (!within(c, 0, 127)) {
            return refuse(BAD);
        }
        return text.append(c) ? text.length : refuse(FULL);
    }

    public int clear() {
        int had = text.length;
        text.length = 0;
        return had;
    }

    public int does() {
        int fault = text.readAll();
        if (fault >= 0) {
            return FAULT_BASE - fault;
        }
        before.copyFrom(now);
        int at = 0;
        for (int n = 0; n < text.orders; n++) {
            if (perform(at) == BAD) {
                now.copyFrom(before);
                return ORDER_BASE - n;
            }
            at += 1 + OrderText.numbersOf(text.item(at));
        }
        keepBefore();
        return text.orders;
    }

    public int back() {
        if (stateCount < 1 || stateCount > MOST_STATES) {
            return refuse(NO);
        }
        stateCount--;
        now.copyFrom(states[stateCount]);
        sight.forget();
        return stateCount;
    }

    public int refused(int what) {
        return within(what, 0, 4) ? tally(what) : refuse(BAD);
    }

    public long digest() {
        long h = DIGEST_START;
        for (int what = 0; what <= 4; what++) {
            h = 31 * h + tally(what);
        }
        for (int what = 0; what <= 10; what++) {
            h = 31 * h + now.setting(what);
        }
        for (int e = 0; e < EXPOSURES; e++) {
            for (int y = 0; y < now.height; y++) {
                for (int x = 0; x < now.width; x++) {
                    h = digestCell(h, e, x, y);
                }
            }
        }
        for (int e = 0; e < EXPOSURES; e++) {
            h = 31 * h + sight.meanBits(e);
        }
        return h;
    }

    private long digestCell(long start, int e, int x, int y) {
        long h = start;
        int cell = now.place(e, x, y);
        for (int k = 0; k < RATES; k++) {
            for (int i = 0; i < PER_RATE; i++) {
                h = 31 * h + now.sampleAt(cell, k, i);
            }
        }
        int mark = sight.markOf(cell);
        h = 31 * h + mark;
        if (mark == MEASURED) {
            return 31 * h + sight.distanceOf(cell);
        }
        if (mark == MIXED) {
            h = 31 * h + sight.nearOf(cell);
            h = 31 * h + sight.beyondOf(cell);
        }
        return 31 * h + sight.filled(e, x, y);
    }

    private int tally(int what) {
        switch (what) {
            case 0: return refusedBad;
            case 1: return refusedNo;
            case 2: return refusedFull;
            case 3: return text.length;
            default: return stateCount;
        }
    }

    private int refuse(int why) {
        if (why == BAD) {
            refusedBad++;
        } else if (why == NO) {
            refusedNo++;
        } else {
            refusedFull++;
        }
        return why;
    }

    /** Ends a call that may have changed what is now; a change that answers BAD has changed nothing. */
    private int settle(int answer) {
        if (answer == BAD) {
            return refuse(BAD);
        }
        keepBefore();
        return answer;
    }

    private void keepBefore() {
        if (stateCount >= MOST_STATES) {
            State oldest = states[0];
            for (int i = 1; i < MOST_STATES; i++) {
                states[i - 1] = states[i];
            }
            states[MOST_STATES - 1] = oldest;
            stateCount = MOST_STATES - 1;
        }
        states[stateCount].copyFrom(before);
        stateCount++;
        sight.forget();
    }

    private int perform(int at) {
        int a = text.item(at + 1);
        int b = text.item(at + 2);
        int c = text.item(at + 3);
        switch (text.item(at)) {
            case 'g': return now.layGrid(a, b);
            case 'v': return now.putWave(a, b);
            case 's': return now.putSetting(a, b);
            case 'e': return now.layEcho(now.place(a, b, c), text.item(at + 4), text.item(at + 5));
            case 'l': return now.addLight(now.place(a, b, c), text.item(at + 4));
            case 'c': return now.darken(now.place(a, b, c));
            default: return BAD;
        }
    }

    private static boolean within(int v, int least, int most) {
        return v >= least && v <= most;
    }

    /** All that back() brings back. A cell's number is -1 where the grid has none. */
    private static final class State {
        int width = 3;
        int height = 3;
        final int[] waves = new int[RATES];
        final int[] settings = new int[SETTINGS];
        final int[] samples = new int[CELLS * PER_CELL];

        State() {
            System.arraycopy(FIRST_WAVES, 0, waves, 0, RATES);
            System.arraycopy(FIRST_SETTINGS, 0, settings, 0, SETTINGS);
        }

        void copyFrom(State other) {
            width = other.width;
            height = other.height;
            System.arraycopy(other.waves, 0, waves, 0, RATES);
            System.arraycopy(other.settings, 0, settings, 0, SETTINGS);
            System.arraycopy(other.samples, 0, samples, 0, CELLS * PER_CELL);
        }

        int place(int e, int x, int y) {
            boolean there = within(e, 0, EXPOSURES - 1) && within(x, 0, width - 1) && within(y, 0, height - 1);
            return there ? (e * SIDE + y) * SIDE + x : -1;
        }

        int setting(int what) {
            if (what == 0) {
                return width;
            }
            if (what == 1) {
                return height;
            }
            int k = what - 2;
            if (within(k, 0, RATES - 1)) {
                return waves[k];
            }
            return within(k - RATES, 0, SETTINGS - 1) ? settings[k - RATES] : BAD;
        }

        int layGrid(int w, int h) {
            if (!within(w, 1, SIDE) || !within(h, 1, SIDE)) {
                return BAD;
            }
            int had = width * height;
            width = w;
            height = h;
            Arrays.fill(samples, 0);
            return had;
        }

        int putWave(int k, int v) {
            if (!within(k, 0, RATES - 1) || !within(v, LEAST_WAVE, MOST_WAVE)) {
                return BAD;
            }
            int was = waves[k];
            waves[k] = v;
            return was;
        }

        int putSetting(int k, int v) {
            if (!within(k, 0, SETTINGS - 1) || !within(v, LEAST_SETTINGS[k], MOST_SETTINGS[k])) {
                return BAD;
            }
            int was = settings[k];
            settings[k] = v;
            return was;
        }

        int putSample(int cell, int k, int i, int v) {
            if (!isCell(cell) || !within(k, 0, RATES - 1) || !within(i, 0, PER_RATE - 1)
                    || !within(v, 0, MOST_SAMPLE)) {
                return BAD;
            }
            int at = cell * PER_CELL + k * PER_RATE + i;
            int was = samples[at];
            samples[at] = v;
            return was;
        }

        int layEcho(int cell, int d, int s) {
            if (!isCell(cell) || !within(d, 0, MOST_DISTANCE) || !within(s, 1, MOST_STRENGTH)) {
                return BAD;
            }
            for (int k = 0; k < RATES; k++) {
                layEchoOfRate(cell * PER_CELL + k * PER_RATE, d, s, waves[k]);
            }
            return countFrom(cell, MOST_SAMPLE);
        }

        private void layEchoOfRate(int at, int d, int s, int wave) {
            if (wave < 1) {
                return;
            }
            int r = d % wave;
            float t = (4f * r) / wave;
            if (t < 1f) {
                int b = (int) (s * t);
                addSignal(at, s - b, b);
            } else if (t < 2f) {
                int b = (int) (s * (t - 1f));
                addSignal(at, -b, s - b);
            } else if (t < 3f) {
                int b = (int) (s * (t - 2f));
                addSignal(at, b - s, -b);
            } else {
                int b = (int) (s * (t - 3f));
                addSignal(at, b, b - s);
            }
        }

        private void addSignal(int at, int across, int along) {
            brighten(across > 0 ? at : at + 2, Math.abs(across));
            brighten(along > 0 ? at + 1 : at + 3, Math.abs(along));
        }

        private void brighten(int at, int more) {
            if (within(at, 0, samples.length - 1)) {
                samples[at] = Math.min(MOST_SAMPLE, samples[at] + more);
            }
        }

        int addLight(int cell, int v) {
            if (!isCell(cell) || !within(v, 1, MOST_SAMPLE)) {
                return BAD;
            }
            for (int i = 0; i < PER_CELL; i++) {
                brighten(cell * PER_CELL + i, v);
            }
            return countFrom(cell, MOST_SAMPLE);
        }

        /** How many samples of a cell are least or more. */
        int countFrom(int cell, int least) {
            if (!isCell(cell)) {
                return 0;
            }
            int count = 0;
            for (int i = 0; i < PER_CELL; i++) {
                count += samples[cell * PER_CELL + i] >= least ? 1 : 0;
            }
            return count;
        }

        int darken(int cell) {
            if (!isCell(cell)) {
                return BAD;
            }
            int lit = countFrom(cell, 1);
            for (int i = 0; i < PER_CELL; i++) {
                samples[cell * PER_CELL + i] = 0;
            }
            return lit;
        }

        int sampleAt(int cell, int k, int i) {
            int at = cell * PER_CELL + k * PER_RATE + i;
            return within(at, 0, samples.length - 1) ? samples[at] : 0;
        }

        /** X of the document. */
        int across(int cell, int k) {
            return sampleAt(cell, k, 0) - sampleAt(cell, k, 2);
        }

        /** Y of the document. */
        int along(int cell, int k) {
            return sampleAt(cell, k, 1) - sampleAt(cell, k, 3);
        }

        float strengthOf(int cell, int k) {
            return Signal.strength(across(cell, k), along(cell, k));
        }

        /** GLOW of the document. */
        float brightness(int cell) {
            return (strengthOf(cell, 0) + strengthOf(cell, 1)) + strengthOf(cell, 2);
        }

        private static boolean isCell(int cell) {
            return within(cell, 0, CELLS - 1);
        }
    }

    /** What X and Y of one rate tell; distances and residues are 0 or more, a residue is below its wave. */
    private static final class Signal {
        static int size(int across, int along) {
            return Math.abs(across) + Math.abs(along);
        }

        static float strength(int across, int along) {
            return size(across, along) / 2f;
        }

        static float phase(int across, int along) {
            int size = Math.abs(across) + Math.abs(along);
            if (size == 0) {
                return -1f;
            }
            float q = (float) along / (float) size;
            if (across < 0) {
                return 2f - q;
            }
            return along >= 0 ? q : 4f + q;
        }

        static int residue(int across, int along, int wave) {
            if (across == 0 && along == 0 || wave < 1) {
                return NONE;
            }
            return (int) ((phase(across, along) * wave) / 4f + 0.5f) % wave;
        }

        static int awayFrom(int d, int residue, int wave) {
            if (wave < 1) {
                return 0;
            }
            int over = (d - residue + wave) % wave;
            return over <= wave - over ? over : wave - over;
        }

        /** How far above d the next distance is that fits; 0 if d itself does. */
        static int gap(int d, int residue, int wave, int noise) {
            if (wave < 1) {
                return 0;
            }
            int over = (d - residue + wave) % wave;
            int ahead = wave - noise - over;
            return over <= noise || ahead < 0 ? 0 : ahead;
        }
    }

    /** A state with the marks and distances of its cells, each reckoned when first asked for. */
    private static final class Sight {
        private static final int NOT_YET = -1, NO_RATE = -1;

        final State state = new State();
        private final int[] known = new int[CELLS];
        /** Distance of a measured cell, near of a mixed one. */
        private final int[] nearer = new int[CELLS];
        private final int[] further = new int[CELLS];
        private final int[] residues = new int[RATES];
        private int firstFit;
        private int lastFit;
        private int best;

        Sight() {
            Arrays.fill(known, NOT_YET);
        }

        void forget() {
            Arrays.fill(known, NOT_YET);
        }

        int markOf(int cell) {
            if (!within(cell, 0, CELLS - 1)) {
                return UNKNOWN;
            }
            if (known[cell] == NOT_YET) {
                int mark = reckon(cell);
                known[cell] = mark == UNKNOWN ? reckonPairs(cell) : mark;
            }
            return known[cell];
        }

        int distanceOf(int cell) {
            return markOf(cell) == MEASURED ? nearer[cell] : NONE;
        }

        int nearOf(int cell) {
            return markOf(cell) == MIXED ? nearer[cell] : NONE;
        }

        int beyondOf(int cell) {
            return markOf(cell) == MIXED ? further[cell] : NONE;
        }

        /** The mark by all rates together: UNKNOWN, if pairs of them must tell. */
        private int reckon(int cell) {
            if (state.countFrom(cell, state.settings[BRIGHT]) > 0) {
                return IS_BRIGHT;
            }
            for (int k = 0; k < RATES; k++) {
                int across = state.across(cell, k);
                int along = state.along(cell, k);
                residues[k] = Signal.residue(across, along, state.waves[k]);
                if (residues[k] == NONE || Signal.strength(across, along) < state.settings[LOW]) {
                    return IS_DARK;
                }
            }
            if (!search(NO_RATE)) {
                return UNKNOWN;
            }
            nearer[cell] = best;
            int reach = 2 * state.settings[NOISE];
            return best - firstFit > reach || lastFit - best > reach ? DOUBTFUL : MEASURED;
        }

        /** The mark by pairs of rates, whose residues reckon() has left. */
        private int reckonPairs(int cell) {
            int near = NONE;
            int beyond = NONE;
            for (int without = 0; without < RATES; without++) {
                if (search(without)) {
                    near = near == NONE ? best : Math.min(near, best);
                    beyond = Math.max(beyond, best);
                }
            }
            nearer[cell] = near;
            further[cell] = beyond;
            return near == NONE ? UNKNOWN : MIXED;
        }

        /**
         * Finds the first, the last and the best distance that fits all rates but one. It ends early where
         * the rest tells nothing new: of all three rates, when fits lie too wide apart for any best between
         * them; of two, whose first and last nobody asks for, when no misfit can be less.
         */
        private boolean search(int without) {
            firstFit = NONE;
            int widest = 4 * state.settings[NOISE];
            int leastMisfit = Integer.MAX_VALUE;
            for (int d = 0; d <= state.settings[FAR]; d++) {
                int gap = widestGap(d, without);
                if (gap > 0) {
                    d += gap - 1;
                    continue;
                }
                int misfit = misfit(d, without);
                if (misfit < leastMisfit) {
                    leastMisfit = misfit;
                    best = d;
                }
                firstFit = firstFit == NONE ? d : firstFit;
                lastFit = d;
                if (without == NO_RATE ? lastFit - firstFit > widest : leastMisfit == 0) {
                    break;
                }
            }
            return firstFit != NONE;
        }

        private int widestGap(int d, int without) {
            int widest = 0;
            for (int k = 0; k < RATES; k++) {
                if (k != without) {
                    widest = Math.max(widest, Signal.gap(d, residues[k], state.waves[k], state.settings[NOISE]));
                }
            }
            return widest;
        }

        private int misfit(int d, int without) {
            int sum = 0;
            for (int k = 0; k < RATES; k++) {
                if (k != without) {
                    int away = Signal.awayFrom(d, residues[k], state.waves[k]);
                    sum += away * away;
                }
            }
            return sum;
        }

        int filled(int e, int x, int y) {
            float own = state.brightness(state.place(e, x, y));
            int edge = state.settings[EDGE];
            float weights = 0f;
            float weighed = 0f;
            for (int side = 0; side < BESIDE_X.length; side++) {
                int cell = state.place(e, x + BESIDE_X[side], y + BESIDE_Y[side]);
                if (cell < 0 || edge < 1 || markOf(cell) != MEASURED) {
                    continue;
                }
                float unlike = state.brightness(cell) - own;
                unlike = unlike < 0f ? -unlike : unlike;
                if (unlike <= 4f * edge) {
                    float weight = 1f / (1f + unlike / edge);
                    weights = weights + weight;
                    weighed = weighed + weight * nearer[cell];
                }
            }
            return weights > 0f ? (int) (weighed / weights) : NONE;
        }

        /** By how much the distance of the second cell is more; NONE if one is not measured. */
        int shift(int first, int second) {
            if (markOf(first) != MEASURED || markOf(second) != MEASURED) {
                return NONE;
            }
            return distanceOf(second) - distanceOf(first);
        }

        long meanBits(int e) {
            int sum = 0;
            int count = 0;
            for (int y = 0; y < state.height; y++) {
                for (int x = 0; x < state.width; x++) {
                    int cell = state.place(e, x, y);
                    if (markOf(cell) == MEASURED) {
                        sum += distanceOf(cell);
                        count++;
                    }
                }
            }
            return count > 0 ? Bits.ofDouble((double) sum / (double) count) : 0L;
        }
    }

    /** The text, and the orders that it tells: each a letter with its numbers behind it. */
    private static final class OrderText {
        private static final int MOST_FIGURES = 4, OUTSIDE = -1;

        private final int[] bytes = new int[MOST_TEXT];
        int length = 0;
        /** A letter or a number takes a byte at least, so there are never more than bytes. */
        private final int[] items = new int[MOST_TEXT];
        private int itemCount;
        int orders = 0;
        /** How many numbers are due yet in the order that is open. */
        private int due;
        private int figures;
        private int number;

        boolean append(int c) {
            if (length < 0 || length >= MOST_TEXT) {
                return false;
            }
            bytes[length] = c;
            length++;
            return true;
        }

        /** Reads it whole: the place of the fault, or -1 if there is none. */
        int readAll() {
            itemCount = 0;
            orders = 0;
            due = OUTSIDE;
            figures = 0;
            for (int i = 0; i < length && i < MOST_TEXT; i++) {
                if (!takes(bytes[i])) {
                    return i;
                }
            }
            return due == OUTSIDE && orders > 0 ? -1 : length;
        }

        /** The letter or number at a place of what has been read. */
        int item(int at) {
            return within(at, 0, itemCount - 1) ? items[at] : -1;
        }

        private boolean takes(int c) {
            if (c >= '0' && c <= '9') {
                return takesFigure(c - '0');
            }
            endNumber();
            if (c == ' ') {
                return true;
            }
            if (due == OUTSIDE) {
                due = numbersOf(c);
                keep(c);
                return due != OUTSIDE;
            }
            if (c != ';' || due > 0) {
                return false;
            }
            due = OUTSIDE;
            orders++;
            return true;
        }

        private boolean takesFigure(int figure) {
            if (figures == 0) {
                if (due < 1) {
                    return false;
                }
                due--;
                number = 0;
            }
            if (figures >= MOST_FIGURES) {
                return false;
            }
            number = number * 10 + figure;
            figures++;
            return true;
        }

        private void endNumber() {
            if (figures > 0) {
                keep(number);
                figures = 0;
            }
        }

        private void keep(int v) {
            if (within(itemCount, 0, MOST_TEXT - 1)) {
                items[itemCount] = v;
                itemCount++;
            }
        }

        static int numbersOf(int letter) {
            switch (letter) {
                case 'g':
                case 'v':
                case 's': return 2;
                case 'e': return 5;
                case 'l': return 4;
                case 'c': return 3;
                default: return OUTSIDE;
            }
        }
    }

    /** The bits of numbers, by arithmetic alone; halving and doubling lose nothing here. */
    private static final class Bits {
        private static final int MOST_STEPS = 1100;

        static int ofFloat(float v) {
            if (v == 0f) {
                return 0;
            }
            float size = v < 0f ? -v : v;
            int power = 127;
            for (int n = 0; n < MOST_STEPS && size >= 2f; n++) {
                size = size / 2f;
                power++;
            }
            for (int n = 0; n < MOST_STEPS && size < 1f; n++) {
                size = size * 2f;
                power--;
            }
            int sign = v < 0f ? Integer.MIN_VALUE : 0;
            return sign | power << 23 | (int) ((size - 1f) * 8388608f);
        }

        /** Of v 0 or more. */
        static long ofDouble(double v) {
            if (v <= 0d) {
                return 0L;
            }
            double size = v;
            long power = 1023L;
            for (int n = 0; n < MOST_STEPS && size >= 2d; n++) {
                size = size / 2d;
                power++;
            }
            for (int n = 0; n < MOST_STEPS && size < 1d; n++) {
                size = size * 2d;
                power--;
            }
            return power << 52 | (long) ((size - 1d) * 4503599627370496d);
        }
    }
}
