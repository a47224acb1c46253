/** FILLED at the edges of the grid, of EDGE, and of what may fill. */
public final class FilledEdgesTest extends Checks {
    private static final int[] ABOVE_RIGHT_BELOW_LEFT_X = {0, 1, 0, -1}, ABOVE_RIGHT_BELOW_LEFT_Y = {-1, 0, 1, 0};

    private FilledEdgesTest() {
    }

    public static void main(String[] args) {
        onlyFromBeside();
        fromEachSide();
        noneBesideAtAll();
        justAsBright();
        nearlyAsBright();
        edgeAtTheEndsOfItsRange();
        onlyFromMeasured();
        neverFromFilled();
        ofEachMarkButMeasured();
        cutToWhole();
        weighedByLikeness();
        inTheOrderOfSides();
        ends("all edges of filled cells are as due");
    }

    /** Every cell but those beside it is measured, in both exposures: rows do not run into one another. */
    private static void onlyFromBeside() {
        for (int[] grid : new int[][] {{4, 4}, {3, 2}, {1, 4}, {4, 1}}) {
            for (int spot = 0; spot < grid[0] * grid[1]; spot++) {
                int x = spot % grid[0], y = spot / grid[0];
                PhaseCells c = new PhaseCells();
                c.grid(grid[0], grid[1]);
                c.sets(4, 500);
                for (int other = 0; other < grid[0] * grid[1]; other++) {
                    int ox = other % grid[0], oy = other / grid[0];
                    int steps = Math.abs(ox - x) + Math.abs(oy - y);
                    if (steps > 1) {
                        c.echo(1, ox, oy, 2000, 500);
                    }
                    c.echo(0, ox, oy, 2000, 500);
                }
                due("not from further ones", c.cell(1, x, y, 3), NONE);
            }
        }
    }

    /** One side at a time; where the grid ends there is none. */
    private static void fromEachSide() {
        for (int spot = 0; spot < 16; spot++) {
            int x = spot % 4, y = spot / 4;
            for (int side = 0; side < 4; side++) {
                int ox = x + ABOVE_RIGHT_BELOW_LEFT_X[side], oy = y + ABOVE_RIGHT_BELOW_LEFT_Y[side];
                PhaseCells c = new PhaseCells();
                c.grid(4, 4);
                c.sets(4, 500);
                int laid = c.echo(0, ox, oy, 1700 + side, 500);
                boolean there = ox >= 0 && ox < 4 && oy >= 0 && oy < 4;
                due("a side that is there", laid, there ? 0 : BAD);
                due("from side " + side, c.cell(0, x, y, 3), there ? 1700 + side : NONE);
                due("not of the other exposure", c.cell(1, x, y, 3), NONE);
            }
        }
    }

    private static void noneBesideAtAll() {
        PhaseCells c = new PhaseCells();
        c.grid(1, 1);
        c.sets(4, 500);
        due("the only cell", c.cell(0, 0, 0, 3), NONE);
        c.echo(1, 0, 0, 1000, 500);
        due("the other exposure is not beside it", c.cell(0, 0, 0, 3), NONE);
        due("NONE is not counted", c.refused(1), 0);
    }

    /**
     * A measured cell with samples of 300 each (glow 450) beside a dark or a bright one whose glow is told by
     * S of its rates: 2 * (450 - D) or 2 * (450 + D) in all.
     */
    private static int filledWith(int edge, int... s) {
        PhaseCells c = new PhaseCells();
        c.sets(4, edge);
        c.sets(1, 150);
        c.sets(2, 301);
        lay(c, 0, 0, 0, 300, 0, 0, 0);
        due("measured", c.cell(0, 0, 0, 0), 0);
        for (int k = 0; k < 3; k++) {
            c.sample(0, 1, 0, k, 0, s[k]);
        }
        due("not measured", c.mark(0, 1, 0) == 0 ? 1 : 0, 0);
        return c.cell(0, 1, 0, 3);
    }

    /** "no more than 4f * EDGE", darker and brighter; glow goes by halves. */
    private static void justAsBright() {
        due("40 less", filledWith(10, 300, 300, 220), 0);
        due("40.5 less", filledWith(10, 300, 300, 219), NONE);
        due("39.5 less", filledWith(10, 300, 300, 221), 0);
        due("40 more", filledWith(10, 380, 300, 300), 0);
        due("40.5 more", filledWith(10, 380, 301, 300), NONE);
        due("39.5 more", filledWith(10, 379, 300, 300), 0);
        due("all rates count: 40 less", filledWith(10, 280, 270, 270), 0);
        due("all rates count: 40.5 less", filledWith(10, 280, 270, 269), NONE);
    }

    private static void nearlyAsBright() {
        due("of like glow", filledWith(1, 299, 301, 300), 0);
        due("a half less", filledWith(1, 300, 300, 299), 0);
        due("a half more", filledWith(1, 300, 300, 301), 0);
        // EDGE 1: one beside it is as bright, the other a half more or less, its weight is 1 / 1.5: 1967 / 1.667
        for (int half = -1; half <= 1; half += 2) {
            PhaseCells c = new PhaseCells();
            c.grid(3, 1);
            c.sets(4, 1);
            c.sets(3, 1500);
            for (int k = 0; k < 3; k++) {
                c.wave(k, 400 << k);
            }
            c.echo(0, 0, 0, 1000, 200);
            c.echo(0, 2, 0, 1300, 200);
            c.sample(0, 0, 0, 0, 2, 200 + half);
            layRate(c, 0, 1, 0, 0, 599, 0, 0, 0);
            c.sample(0, 1, 0, 1, 0, 1);
            due("dark", c.mark(0, 1, 0), 2);
            due("the other as bright yet", c.cell(0, 0, 0, 0), 1000);
            due("weighed by a half of " + half, c.cell(0, 1, 0, 3), 1180);
        }
    }

    private static void edgeAtTheEndsOfItsRange() {
        due("EDGE 1, 4 less", filledWith(1, 300, 300, 292), 0);
        due("EDGE 1, 4.5 less", filledWith(1, 300, 300, 291), NONE);
        due("EDGE 1, 4 more", filledWith(1, 300, 300, 308), 0);
        due("EDGE 1, 4.5 more", filledWith(1, 300, 300, 309), NONE);
        due("EDGE 500, 2000 more", filledWith(500, 4000, 600, 300), 0);
        due("EDGE 500, 2000.5 more", filledWith(500, 4001, 600, 300), NONE);
        due("EDGE 500, 450 less", filledWith(500, 0, 0, 0), 0);
    }

    /** "those that are MEASURED": a bright, dark, doubtful, mixed or unknown one fills none. */
    private static void onlyFromMeasured() {
        PhaseCells c = new PhaseCells();
        c.grid(2, 1);
        c.sets(4, 500);
        c.echo(0, 0, 0, 1000, 500);
        due("measured", c.cell(0, 1, 0, 3), 1000);
        c.sets(2, 500);
        due("bright", c.mark(0, 0, 0), 1);
        due("not from a bright one", c.cell(0, 1, 0, 3), NONE);
        c.sets(2, 4000);
        c.sets(1, 251);
        due("dark", c.mark(0, 0, 0), 2);
        due("not from a dark one", c.cell(0, 1, 0, 3), NONE);
        c.sets(1, 20);
        due("measured again", c.cell(0, 1, 0, 3), 1000);
        c.wave(0, 490);
        due("mixed", c.mark(0, 0, 0), 4);
        due("not from a mixed one", c.cell(0, 1, 0, 3), NONE);
        c.sets(3, 100);
        due("5", c.mark(0, 0, 0), 5);
        due("not from one of 5", c.cell(0, 1, 0, 3), NONE);
        for (int k = 0; k < 3; k++) {
            c.wave(k, 50);
        }
        lay(c, 0, 0, 0, 300, 0, 0, 0);
        due("doubtful", c.mark(0, 0, 0), 3);
        due("not from a doubtful one", c.cell(0, 1, 0, 3), NONE);
    }

    private static void neverFromFilled() {
        PhaseCells c = new PhaseCells();
        c.grid(4, 1);
        c.sets(4, 500);
        c.echo(0, 0, 0, 1000, 500);
        for (int again = 0; again < 2; again++) {
            due("beside it", c.cell(0, 1, 0, 3), 1000);
            due("two from it", c.cell(0, 2, 0, 3), NONE);
            due("three from it", c.cell(0, 3, 0, 3), NONE);
        }
        due("it is dark yet", c.mark(0, 1, 0), 2);
        due("its distance is not told", c.cell(0, 1, 0, 0), NO);
        due("the mean leaves it out", c.mean(0), Double.doubleToLongBits(1000.0));
        due("one is measured", c.marks(0, 0), 1);
        c.echo(1, 1, 0, 1000, 500);
        due("it has no motion", c.motion(1, 0), NO);
    }

    /** Each MARK but 0 has a FILLED; a measured one has NO. Waves of 2000, 2000, 1000 to FAR 2900: 1000 is alone. */
    private static void ofEachMarkButMeasured() {
        int[][] echoes = {{1000, 1000, 1000}, {0, 0, 0}, {0, 0, 0}, {100, 100, 100}, {300, 300, 800}, {100, 500, 900}};
        for (int m = 0; m < 6; m++) {
            PhaseCells c = new PhaseCells();
            c.grid(1, 2);
            c.sets(4, 500);
            c.sets(3, 2900);
            c.wave(0, 2000);
            c.wave(1, 2000);
            c.wave(2, 1000);
            c.echo(0, 0, 0, 1000, 500);
            layEchoes(c, 0, 1, echoes[m]);
            if (m == 1) {
                c.shines(0, 0, 1, 3400);
            } else if (m == 2) {
                c.clears(0, 0, 1);
            }
            due("mark", c.mark(0, 0, 1), m);
            due("filled of mark " + m, c.cell(0, 0, 1, 3), m == 0 ? NO : 1000);
        }
    }

    /** Two of like weight, 1000 and 1001: (int) cuts 1000.5. */
    private static void cutToWhole() {
        PhaseCells c = new PhaseCells();
        c.grid(3, 1);
        c.sets(4, 500);
        c.echo(0, 0, 0, 1000, 500);
        c.echo(0, 2, 0, 1001, 500);
        due("1000.5", c.cell(0, 1, 0, 3), 1000);
        c.clears(0, 2, 0);
        c.echo(0, 2, 0, 1002, 500);
        due("1001", c.cell(0, 1, 0, 3), 1001);
        c.clears(0, 0, 0);
        c.clears(0, 2, 0);
        c.echo(0, 0, 0, 0, 500);
        c.echo(0, 2, 0, 1, 1000);
        due("less than 1", c.cell(0, 1, 0, 3), 0);
    }

    /** EDGE 100 and a glow of 0: 150 weighs 1 / 2.5, 300 weighs 1 / 4: 1000 * 0.4 + 1300 * 0.25 by 0.65. */
    private static void weighedByLikeness() {
        PhaseCells c = new PhaseCells();
        c.grid(1, 3);
        c.sets(4, 100);
        c.sets(3, 1500);
        for (int k = 0; k < 3; k++) {
            c.wave(k, 400 << k);
        }
        c.echo(0, 0, 0, 1000, 100);
        c.echo(0, 0, 2, 1300, 200);
        due("glow of one", c.glow(0, 0, 0), Float.floatToIntBits(150f));
        due("glow of the other", c.glow(0, 0, 2), Float.floatToIntBits(300f));
        due("1115.38", c.cell(0, 0, 1, 3), 1115);
        c.sets(4, 75);
        // 300 is 4 * 75 just yet: 1 / 3 and 1 / 5
        due("1112.5 with EDGE 75", c.cell(0, 0, 1, 3), 1112);
        c.sets(4, 74);
        due("one is too bright with EDGE 74", c.cell(0, 0, 1, 3), 1000);
        c.sets(4, 37);
        due("both are with EDGE 37", c.cell(0, 0, 1, 3), NONE);
    }

    /** Of like distances the sums in float may come to one less, by the order in which they are taken. */
    private static void inTheOrderOfSides() {
        int found = 0;
        for (int seed = 0; seed < 60; seed++) {
            int[] strengths = {500 + seed * 37 % 491, 500 + seed * 53 % 487, 500 + seed * 71 % 479, 500 + seed * 89 % 467};
            int[] d = {1000 + seed * 61, 1000 + seed * 61, 1000 + seed * 61, 1000 + seed * 61};
            PhaseCells c = new PhaseCells();
            c.sets(4, 400);
            for (int side = 0; side < 4; side++) {
                c.echo(0, 1 + ABOVE_RIGHT_BELOW_LEFT_X[side], 1 + ABOVE_RIGHT_BELOW_LEFT_Y[side], d[side], strengths[side]);
            }
            int want = byHand(d, strengths, 0, 1, 2, 3);
            due("in the order of sides, " + seed, c.cell(0, 1, 1, 3), want);
            found += byHand(d, strengths, 3, 2, 1, 0) != want ? 1 : 0;
        }
        due("the order can be seen", found > 0 ? 1 : 0, 1);
    }

    /** Of a cell of glow 0 with EDGE 400; an echo's S is its strength in each rate. */
    private static int byHand(int[] d, int[] strengths, int... order) {
        float u = 0f, t = 0f;
        for (int side : order) {
            float half = strengths[side] / 2f;
            float glow = (half + half) + half;
            if (glow <= 1600f) {
                float v = 1f / (1f + glow / 400f);
                u = u + v;
                t = t + v * d[side];
            }
        }
        return (int) (t / u);
    }
}
