import java.util.Arrays;
import java.util.Set;

/**
 * Every number of every call, in grids of several sizes: the least and the greatest are taken, one less, one
 * more and the ends of int are refused as BAD, and a refused call changes nothing but how often.
 */
public final class RangesTest extends Checks {
    private static final int[][] GRIDS = {{1, 1}, {4, 4}, {3, 3}, {4, 1}, {1, 4}, {2, 3}};
    private static final int[][] SETTINGS = {{0, 50}, {0, 2000}, {1, 4095}, {100, 9999}, {1, 500}, {0, 500}};
    private static final Set<String> TOLD_S = Set.of("grid", "wave", "sets", "sample", "echo", "shines", "clears");

    private RangesTest() {
    }

    public static void main(String[] args) {
        for (int[] grid : GRIDS) {
            for (String name : Face.NAMES) {
                eachNumber(grid, name, ranges(name, grid[0], grid[1]), 0);
            }
            for (int k = 0; k < SETTINGS.length; k++) {
                eachNumber(grid, "sets", new int[][] {{k, k}, SETTINGS[k]}, 1);
            }
            for (int k : new int[] {-1, 6, Integer.MIN_VALUE, Integer.MAX_VALUE}) {
                refuses(grid, "sets", new int[] {k, 50});
            }
        }
        settingsAndWavesAtTheirEnds();
        samplesAtTheirEnds();
        ordersAtTheirEnds();
        ordersBeyondTheirEnds();
        ends("all ranges are kept");
    }

    /** The least and the greatest of each number, as the document tells them; sets() has its own by SETTING. */
    private static int[][] ranges(String name, int w, int h) {
        int[] e = {0, 1}, x = {0, w - 1}, y = {0, h - 1}, k = {0, 2}, four = {0, 3};
        switch (name) {
            case "grid": return new int[][] {{1, 4}, {1, 4}};
            case "wave": return new int[][] {k, {10, 2000}};
            case "sample": return new int[][] {e, x, y, k, four, {0, 4095}};
            case "echo": return new int[][] {e, x, y, {0, 9999}, {1, 1000}};
            case "shines": return new int[][] {e, x, y, {1, 4095}};
            case "clears": case "mark": case "glow": return new int[][] {e, x, y};
            case "raw": case "of": return new int[][] {e, x, y, k, four};
            case "bits": return new int[][] {e, x, y, k, {0, 1}};
            case "wraps": return new int[][] {e, x, y, k};
            case "away": return new int[][] {e, x, y, k, {0, 9999}};
            case "cell": return new int[][] {e, x, y, four};
            case "motion": return new int[][] {x, y};
            case "marks": return new int[][] {e, {0, 5}};
            case "mean": return new int[][] {e};
            case "told": return new int[][] {{0, 10}};
            case "type": return new int[][] {{0, 127}};
            case "refused": return new int[][] {{0, 4}};
            default: return new int[0][];
        }
    }

    private static void eachNumber(int[] grid, String name, int[][] ranges, int first) {
        for (int at = first; at < ranges.length; at++) {
            int least = ranges[at][0], most = ranges[at][1];
            for (int end = 0; end < 2; end++) {
                int[] n = atEnd(ranges, end);
                takes(grid, name, n);
                for (int v : new int[] {least - 1, most + 1, least - 1000, Integer.MIN_VALUE, Integer.MAX_VALUE}) {
                    int[] bad = n.clone();
                    bad[at] = v;
                    refuses(grid, name, bad);
                }
            }
        }
        if (ranges.length > 0) {
            int[] all = new int[ranges.length];
            Arrays.fill(all, -1);
            refuses(grid, name, all);
            Arrays.fill(all, 1 << 30);
            refuses(grid, name, all);
        }
    }

    private static int[] atEnd(int[][] ranges, int end) {
        int[] n = new int[ranges.length];
        for (int i = 0; i < n.length; i++) {
            n[i] = ranges[i][end];
        }
        return n;
    }

    /** Something in each cell at the corners, a text, two states and more that can be gone back to. */
    private static PhaseCells laid(int[] grid) {
        PhaseCells c = new PhaseCells();
        c.grid(grid[0], grid[1]);
        for (int e = 0; e < 2; e++) {
            c.echo(e, 0, 0, 1234, 700);
            c.echo(e, grid[0] - 1, grid[1] - 1, 2345, 600);
        }
        c.shines(0, 0, grid[1] - 1, 17);
        c.wave(1, 701);
        types(c, "v2 99;");
        return c;
    }

    private static void takes(int[] grid, String name, int[] n) {
        PhaseCells c = laid(grid);
        long answer = Face.call(c, name, n);
        String shown = name + Arrays.toString(n) + " in " + Arrays.toString(grid);
        due(shown + " is BAD", answer == BAD ? 1 : 0, 0);
        due(shown + " counts as BAD", c.refused(0), 0);
        due(shown + " counts as NO", c.refused(1), answer == NO ? 1 : 0);
        due(shown + " counts as FULL", c.refused(2), 0);
        leavesStates(grid, name, n);
    }

    /** A call told S leaves a state, whatever it changes; a getter leaves none. */
    private static void leavesStates(int[] grid, String name, int[] n) {
        PhaseCells c = new PhaseCells();
        c.grid(grid[0], grid[1]);
        Face.call(c, name, n);
        due(name + Arrays.toString(n) + " leaves states", c.refused(4), TOLD_S.contains(name) ? 2 : 1);
    }

    /** It has changed what told(99), a refused call that can change nothing else, has changed, and no more. */
    private static void refuses(int[] grid, String name, int[] n) {
        PhaseCells c = laid(grid), like = laid(grid);
        String shown = name + Arrays.toString(n) + " in " + Arrays.toString(grid);
        due(shown, Face.call(c, name, n), BAD);
        like.told(99);
        due(shown + " counted", c.refused(0), 1);
        due(shown + " left all as it was", c.digest(), like.digest());
        due(shown + " left the text", c.does(), like.does());
        for (int i = 0; i < 6; i++) {
            due(shown + " left the states", c.back(), like.back());
            due(shown + " left each state", c.digest(), like.digest());
        }
    }

    /** SETTINGS and WAVES at their ends are told and can be reckoned with. */
    private static void settingsAndWavesAtTheirEnds() {
        for (int end = 0; end < 2; end++) {
            PhaseCells c = new PhaseCells();
            int[] waves = {10, 2000};
            for (int k = 0; k < 3; k++) {
                c.wave(k, waves[end]);
                due("told wave at its end", c.told(2 + k), waves[end]);
            }
            for (int k = 0; k < 6; k++) {
                c.sets(k, SETTINGS[k][end]);
                due("told setting at its end", c.told(5 + k), SETTINGS[k][end]);
            }
            c.echo(0, 0, 0, 9999, 1000);
            // BRIGHT 1: any sample is; LOW 2000: a strength of 500 is too dark
            due("mark at the ends", c.mark(0, 0, 0), 1 + end);
        }
    }

    /** A SAMPLE is 0 to 4095: X, Y and S at their ends. */
    private static void samplesAtTheirEnds() {
        PhaseCells c = new PhaseCells();
        lay(c, 0, 0, 0, 4095, 4095, 0, 0);
        due("greatest X", c.of(0, 0, 0, 0, 0), 4095);
        due("greatest Y", c.of(0, 0, 0, 1, 1), 4095);
        due("greatest S", c.of(0, 0, 0, 2, 2), 8190);
        due("greatest strength", c.bits(0, 0, 0, 2, 0), Float.floatToIntBits(4095f));
        due("greatest glow", c.glow(0, 0, 0), Float.floatToIntBits(12285f));
        lay(c, 0, 0, 0, 0, 0, 4095, 4095);
        due("least X", c.of(0, 0, 0, 0, 0), -4095);
        due("least Y", c.of(0, 0, 0, 1, 1), -4095);
        due("S of the least", c.of(0, 0, 0, 2, 2), 8190);
        lay(c, 0, 0, 0, 4095, 4095, 4095, 4095);
        due("S of like ones", c.of(0, 0, 0, 0, 2), 0);
        due("least strength", c.bits(0, 0, 0, 0, 0), 0);
        due("sample back to 0", c.sample(0, 0, 0, 0, 0, 0), 4095);
        due("it is 0", c.raw(0, 0, 0, 0, 0), 0);
    }

    private static String order(char letter, int... n) {
        StringBuilder text = new StringBuilder().append(letter);
        for (int v : n) {
            text.append(' ').append(v);
        }
        return text.append(';').toString();
    }

    /** Each ORDER with its least and its greatest numbers does what its call does. */
    private static void ordersAtTheirEnds() {
        String[] names = {"grid", "wave", "echo", "shines", "clears"};
        for (int i = 0; i < names.length; i++) {
            int[][] ranges = ranges(names[i], 3, 3);
            for (int end = 0; end < 2; end++) {
                doesAsItsCall("gvelc".charAt(i), names[i], atEnd(ranges, end));
            }
        }
        for (int k = 0; k < 6; k++) {
            doesAsItsCall('s', "sets", k, SETTINGS[k][0]);
            doesAsItsCall('s', "sets", k, SETTINGS[k][1]);
        }
    }

    private static void doesAsItsCall(char letter, String name, int... n) {
        int[] grid = {3, 3};
        PhaseCells c = laid(grid), like = laid(grid);
        String text = order(letter, n);
        due("does " + text, does(c, text), 1);
        like.clear();
        types(like, text);
        Face.call(like, name, n);
        due("as its call: " + text, c.digest(), like.digest());
    }

    /** An ORDER that its call would refuse ends all; what has five figures never comes so far. */
    private static void ordersBeyondTheirEnds() {
        String[] names = {"grid", "wave", "echo", "shines", "clears"};
        for (int i = 0; i < names.length; i++) {
            int[][] ranges = ranges(names[i], 3, 3);
            for (int at = 0; at < ranges.length; at++) {
                endsAll("gvelc".charAt(i), atEnd(ranges, 0), at, ranges[at][0] - 1);
                endsAll("gvelc".charAt(i), atEnd(ranges, 1), at, ranges[at][1] + 1);
                endsAll("gvelc".charAt(i), atEnd(ranges, 1), at, 9999);
            }
        }
        for (int k = 0; k < 6; k++) {
            endsAll('s', new int[] {k, 0}, 1, SETTINGS[k][0] - 1);
            endsAll('s', new int[] {k, 0}, 1, SETTINGS[k][1] + 1);
        }
        endsAll('s', new int[] {0, 1}, 0, 6);
        PhaseCells c = new PhaseCells();
        due("d of five figures", does(c, "e0 0 0 10000 1;"), -10 - 11);
        due("five figures of noughts", does(c, "e0 0 0 00000 1;"), -10 - 11);
    }

    private static void endsAll(char letter, int[] n, int at, int v) {
        if (v < 0 || v > 9999 || letter == 'e' && at == 3) {
            return;
        }
        int[] bad = n.clone();
        bad[at] = v;
        int[] grid = {3, 3};
        PhaseCells c = laid(grid), like = laid(grid);
        String text = "v0 77;" + order(letter, bad) + "v1 78;";
        due("does " + text, does(c, text), -1001);
        like.clear();
        types(like, text);
        due("nothing done by " + text, c.digest(), like.digest());
        for (int i = 0; i < 6; i++) {
            due("back after " + text, c.back(), like.back());
            due("states after " + text, c.digest(), like.digest());
        }
    }
}
