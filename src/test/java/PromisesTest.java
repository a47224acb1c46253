/** Each promise of the document by calls whose answers were worked out by hand from its words. */
public final class PromisesTest extends Checks {
    private PromisesTest() {
    }

    public static void main(String[] args) {
        promise1NewObject();
        promise2Grid();
        promise3Wave();
        promise4Sets();
        promise5Sample();
        promise6Echo();
        promise7Shines();
        promise8Clears();
        promise9Raw();
        promise10Of();
        promise11Bits();
        promise12Wraps();
        promise13Away();
        promise14Mark();
        promise15Cell();
        promise15Filled();
        promise16Glow();
        promise17Motion();
        promise18Marks();
        promise19Moved();
        promise20Mean();
        promise21Told();
        promise22Type();
        promise23Clear();
        promise24DoesOrders();
        promise24DoesFaults();
        promise24DoesEndsAll();
        promise25Back();
        promise26Refused();
        promise27Digest();
        ends("all promises are kept");
    }

    private static void promise1NewObject() {
        PhaseCells c = new PhaseCells();
        int[] want = {3, 3, 500, 700, 1100, 4, 20, 4000, 5000, 50, 10};
        for (int i = 0; i < want.length; i++) {
            due("new told " + i, c.told(i), want[i]);
        }
        for (int i = 0; i < 5; i++) {
            due("new refused " + i, c.refused(i), 0);
        }
        for (int e = 0; e < 2; e++) {
            for (int y = 0; y < 3; y++) {
                for (int x = 0; x < 3; x++) {
                    for (int i = 0; i < 12; i++) {
                        due("new raw", c.raw(e, x, y, i / 4, i % 4), 0);
                    }
                }
            }
        }
        due("new clear", c.clear(), 0);
        due("new back", c.back(), NO);
        PhaseCells other = new PhaseCells();
        c.wave(0, 10);
        c.sample(0, 0, 0, 0, 0, 1);
        due("objects share nothing", other.told(2), 500);
        due("objects share no samples", other.raw(0, 0, 0, 0, 0), 0);
    }

    private static void promise2Grid() {
        PhaseCells c = new PhaseCells();
        c.sample(0, 1, 1, 1, 1, 7);
        c.sample(1, 2, 2, 2, 3, 9);
        due("grid", c.grid(4, 2), 9);
        due("grid w", c.told(0), 4);
        due("grid h", c.told(1), 2);
        due("grid cleared 0", c.raw(0, 1, 1, 1, 1), 0);
        due("x reaches 3", c.raw(0, 3, 1, 0, 0), 0);
        refusesBad(c, "raw", 0, 4, 0, 0, 0);
        refusesBad(c, "raw", 0, 0, 2, 0, 0);
        due("grid again", c.grid(1, 4), 8);
        due("grid 4 4", c.grid(4, 4), 4);
        due("grid cleared 1", c.raw(1, 2, 2, 2, 3), 0);
        due("grid same", c.grid(4, 4), 16);
        c.sample(1, 3, 3, 2, 3, 9);
        due("grid 1 1", c.grid(1, 1), 16);
        due("grid back up", c.grid(4, 4), 1);
        due("grid had lost it", c.raw(1, 3, 3, 2, 3), 0);
        refusesBad(c, "grid", 0, 1);
        refusesBad(c, "grid", 1, 0);
        refusesBad(c, "grid", 5, 1);
        refusesBad(c, "grid", 1, 5);
        refusesBad(c, "grid", Integer.MIN_VALUE, Integer.MAX_VALUE);
        due("grid refused changes nothing", c.told(0) * 10 + c.told(1), 44);
    }

    private static void promise3Wave() {
        PhaseCells c = new PhaseCells();
        due("wave 0", c.wave(0, 10), 500);
        due("wave 1", c.wave(1, 2000), 700);
        due("wave 2", c.wave(2, 11), 1100);
        due("wave 0 again", c.wave(0, 10), 10);
        due("wave told", c.told(3), 2000);
        refusesBad(c, "wave", -1, 100);
        refusesBad(c, "wave", 3, 100);
        refusesBad(c, "wave", 0, 9);
        refusesBad(c, "wave", 0, 2001);
        due("wave refused changes nothing", c.told(2), 10);
        due("wave leaves states", c.refused(4), 4);
    }

    private static void promise4Sets() {
        int[] first = {4, 20, 4000, 5000, 50, 10};
        int[] least = {0, 0, 1, 100, 1, 0};
        int[] most = {50, 2000, 4095, 9999, 500, 500};
        PhaseCells c = new PhaseCells();
        for (int k = 0; k < 6; k++) {
            due("sets least", c.sets(k, least[k]), first[k]);
            due("sets most", c.sets(k, most[k]), least[k]);
            refusesBad(c, "sets", k, least[k] - 1);
            refusesBad(c, "sets", k, most[k] + 1);
            due("sets told", c.told(5 + k), most[k]);
        }
        refusesBad(c, "sets", -1, 1);
        refusesBad(c, "sets", 6, 1);
        due("sets leaves states", c.refused(4), 5);
    }

    private static void promise5Sample() {
        PhaseCells c = new PhaseCells();
        due("sample", c.sample(1, 2, 0, 2, 3, 4095), 0);
        due("sample again", c.sample(1, 2, 0, 2, 3, 12), 4095);
        due("sample is where it was put", c.raw(1, 2, 0, 2, 3), 12);
        due("not in the other exposure", c.raw(0, 2, 0, 2, 3), 0);
        due("not at y, x", c.raw(1, 0, 2, 2, 3), 0);
        due("sample leaves states", c.refused(4), 2);
        int[][] bad = {{2, 0, 0, 0, 0, 0}, {-1, 0, 0, 0, 0, 0}, {0, 3, 0, 0, 0, 0}, {0, -1, 0, 0, 0, 0},
            {0, 0, 3, 0, 0, 0}, {0, 0, -1, 0, 0, 0}, {0, 0, 0, 3, 0, 0}, {0, 0, 0, -1, 0, 0}, {0, 0, 0, 0, 4, 0},
            {0, 0, 0, 0, -1, 0}, {0, 0, 0, 0, 0, -1}, {0, 0, 0, 0, 0, 4096}};
        for (int[] n : bad) {
            refusesBad(c, "sample", n);
        }
    }

    /** Waves of 100, 200, 400: d of 130 is 30 of 100, 130 of 200, 130 of 400. */
    private static void promise6Echo() {
        PhaseCells c = new PhaseCells();
        c.wave(0, 100);
        c.wave(1, 200);
        c.wave(2, 400);
        due("echo", c.echo(0, 1, 2, 130, 1000), 0);
        // t is 1.2, 2.6 and 1.3; b is 200, 599 (1000 * 0.5999999) and 299 (1000 * 0.29999995)
        int[] want = {0, 800, 200, 0, 0, 0, 401, 599, 0, 701, 299, 0};
        for (int i = 0; i < 12; i++) {
            due("echo sample " + i, c.raw(0, 1, 2, i / 4, i % 4), want[i]);
        }
        due("echo elsewhere nothing", c.raw(0, 2, 1, 0, 1), 0);
        due("echo of 0", c.echo(1, 0, 0, 0, 7), 0);
        due("echo of 0 is along X", c.raw(1, 0, 0, 2, 0), 7);
        due("echo in the last quarter", c.echo(1, 1, 0, 380, 10), 0);
        due("last quarter X", c.of(1, 1, 0, 2, 0), 7);
        due("last quarter Y", c.of(1, 1, 0, 2, 1), -3);
        due("more is added", c.echo(1, 0, 0, 0, 1000), 0);
        due("sum", c.raw(1, 0, 0, 1, 0), 1007);
        c.echo(1, 0, 0, 0, 1000);
        c.echo(1, 0, 0, 0, 1000);
        due("just below", c.echo(1, 0, 0, 0, 1000), 0);
        due("4007", c.raw(1, 0, 0, 1, 0), 4007);
        due("cut at 4095", c.echo(1, 0, 0, 0, 89), 3);
        due("4095", c.raw(1, 0, 0, 1, 0), 4095);
        due("exactly 4095", c.raw(1, 0, 0, 2, 0), 4095);
        refusesBad(c, "echo", 0, 0, 0, -1, 1);
        refusesBad(c, "echo", 0, 0, 0, 10000, 1);
        refusesBad(c, "echo", 0, 0, 0, 0, 0);
        refusesBad(c, "echo", 0, 0, 0, 0, 1001);
        refusesBad(c, "echo", 2, 0, 0, 0, 1);
        refusesBad(c, "echo", 0, 3, 0, 0, 1);
        refusesBad(c, "echo", 0, 0, -1, 0, 1);
        due("echo d 9999", c.echo(0, 0, 0, 9999, 1), 0);
    }

    private static void promise7Shines() {
        PhaseCells c = new PhaseCells();
        c.sample(0, 0, 1, 1, 2, 4094);
        due("shines 1", c.shines(0, 0, 1, 1), 1);
        due("shines all", c.raw(0, 0, 1, 2, 3), 1);
        due("shines 4093", c.shines(0, 0, 1, 4093), 1);
        due("shines to 4095", c.shines(0, 0, 1, 4095), 12);
        due("no more than 4095", c.raw(0, 0, 1, 1, 2), 4095);
        due("shines elsewhere not", c.raw(0, 1, 0, 0, 0), 0);
        due("shines leaves states", c.refused(4), 4);
        c.grid(4, 4);
        due("the last cell", c.shines(1, 3, 3, 9), 0);
        due("the last sample", c.raw(1, 3, 3, 2, 3), 9);
        due("the last cell has a mark", c.mark(1, 3, 3), 2);
        due("the last cell cleared", c.clears(1, 3, 3), 12);
        refusesBad(c, "shines", 0, 0, 0, 0);
        refusesBad(c, "shines", 0, 0, 0, 4096);
        refusesBad(c, "shines", 0, 0, 4, 1);
        refusesBad(c, "shines", -1, 0, 0, 1);
    }

    private static void promise8Clears() {
        PhaseCells c = new PhaseCells();
        c.shines(1, 2, 1, 5);
        c.sample(1, 2, 1, 0, 0, 0);
        c.sample(1, 2, 1, 0, 1, 1);
        c.shines(1, 1, 2, 5);
        due("clears", c.clears(1, 2, 1), 11);
        due("clears again", c.clears(1, 2, 1), 0);
        due("cleared", c.raw(1, 2, 1, 2, 3), 0);
        due("others stay", c.raw(1, 1, 2, 2, 3), 5);
        due("clears leaves states", c.refused(4), 5);
        refusesBad(c, "clears", 2, 0, 0);
        refusesBad(c, "clears", 0, 3, 0);
        refusesBad(c, "clears", 0, 0, 3);
    }

    private static void promise9Raw() {
        PhaseCells c = new PhaseCells();
        for (int k = 0; k < 3; k++) {
            for (int i = 0; i < 4; i++) {
                c.sample(1, 0, 2, k, i, 10 * k + i + 1);
            }
        }
        for (int k = 0; k < 3; k++) {
            for (int i = 0; i < 4; i++) {
                due("raw", c.raw(1, 0, 2, k, i), 10 * k + i + 1);
            }
        }
        due("raw leaves no state", c.refused(4), 5);
        int[][] bad = {{2, 0, 0, 0, 0}, {0, 3, 0, 0, 0}, {0, 0, 3, 0, 0}, {0, 0, 0, 3, 0}, {0, 0, 0, 0, 4},
            {-1, 0, 0, 0, 0}, {0, -1, 0, 0, 0}, {0, 0, -1, 0, 0}, {0, 0, 0, -1, 0}, {0, 0, 0, 0, -1}};
        for (int[] n : bad) {
            refusesBad(c, "raw", n);
            refusesBad(c, "of", n);
        }
    }

    private static void promise10Of() {
        PhaseCells c = new PhaseCells();
        lay(c, 0, 0, 0, 10, 400, 110, 100);
        due("X", c.of(0, 0, 0, 0, 0), -100);
        due("Y", c.of(0, 0, 0, 0, 1), 300);
        due("S", c.of(0, 0, 0, 0, 2), 400);
        // phase 1.25 of 500, 700, 1100: 156.25, 218.75, 343.75
        due("residue 0", c.of(0, 0, 0, 0, 3), 156);
        due("residue 1", c.of(0, 0, 0, 1, 3), 219);
        due("residue 2", c.of(0, 0, 0, 2, 3), 344);
        lay(c, 0, 1, 0, 50, 50, 50, 50);
        due("S 0", c.of(0, 1, 0, 0, 2), 0);
        due("residue of S 0", c.of(0, 1, 0, 0, 3), NONE);
        due("NONE is not refused", c.refused(1) + c.refused(0), 0);
        lay(c, 0, 2, 0, 4000, 0, 0, 1);
        // a whole wave, rounded up, is none: phase 3.99975 of 500 is 499.97
        due("a whole wave left over", c.of(0, 2, 0, 0, 3), 0);
        refusesBad(c, "of", 0, 0, 0, 0, 4);
        refusesBad(c, "of", 0, 0, 0, 0, -1);
    }

    private static void promise11Bits() {
        PhaseCells c = new PhaseCells();
        due("strength of 0", c.bits(0, 0, 0, 0, 0), 0);
        due("phase of S 0", c.bits(0, 0, 0, 0, 1), Float.floatToIntBits(-1f));
        int[][] fours = {{1, 0, 0, 0}, {0, 1, 0, 0}, {0, 0, 1, 0}, {0, 0, 0, 1}, {1, 0, 0, 3}, {2, 1, 0, 0},
            {0, 3, 7, 0}, {0, 0, 7, 3}, {4095, 0, 0, 1}, {4095, 4095, 0, 0}, {0, 1, 4095, 0}, {0, 4095, 0, 0}};
        float[] phases = {0f, 1f, 2f, 3f, 4f + -3f / 4f, 1f / 3f, 2f - 3f / 10f, 2f - -3f / 10f, 4f + -1f / 4096f,
            4095f / 8190f, 2f - 1f / 4096f, 1f};
        float[] strengths = {.5f, .5f, .5f, .5f, 2f, 1.5f, 5f, 5f, 2048f, 4095f, 2048f, 2047.5f};
        for (int i = 0; i < fours.length; i++) {
            lay(c, 1, 2, 2, fours[i]);
            due("strength " + i, c.bits(1, 2, 2, 1, 0), Float.floatToIntBits(strengths[i]));
            due("phase " + i, c.bits(1, 2, 2, 1, 1), Float.floatToIntBits(phases[i]));
        }
        for (int y = -40; y <= 40; y++) {
            lay(c, 0, 0, 0, 37, Math.max(y, 0), 0, Math.max(-y, 0));
            float q = (float) y / (float) (37 + Math.abs(y));
            due("phase bits", c.bits(0, 0, 0, 2, 1), Float.floatToIntBits(y >= 0 ? q : 4f + q));
        }
        refusesBad(c, "bits", 0, 0, 0, 0, 2);
        refusesBad(c, "bits", 0, 0, 0, 0, -1);
        refusesBad(c, "bits", 0, 0, 0, 3, 0);
        refusesBad(c, "bits", 0, 0, 3, 0, 0);
    }

    private static void promise12Wraps() {
        PhaseCells c = new PhaseCells();
        c.echo(0, 0, 0, 2199, 800);
        due("wraps of 500", c.wraps(0, 0, 0, 0), 4);
        due("wraps of 700", c.wraps(0, 0, 0, 1), 3);
        due("wraps of 1100", c.wraps(0, 0, 0, 2), 1);
        c.echo(0, 1, 0, 2200, 800);
        due("wraps of twice 1100", c.wraps(0, 1, 0, 2), 2);
        due("not measured", c.wraps(1, 0, 0, 0), NO);
        due("NO counts", c.refused(1), 1);
        refusesBad(c, "wraps", 1, 0, 0, 3);
        refusesBad(c, "wraps", 0, 0, 0, -1);
        refusesBad(c, "wraps", 2, 0, 0, 0);
        due("BAD comes first", c.refused(1), 1);
    }

    private static void promise13Away() {
        PhaseCells c = new PhaseCells();
        c.wave(0, 101);
        c.echo(0, 0, 0, 40, 1000);
        due("residue", c.of(0, 0, 0, 0, 3), 40);
        due("away of itself", c.away(0, 0, 0, 0, 40), 0);
        due("away above", c.away(0, 0, 0, 0, 90), 50);
        due("away turns", c.away(0, 0, 0, 0, 91), 50);
        due("away below", c.away(0, 0, 0, 0, 0), 40);
        due("away of a wave more", c.away(0, 0, 0, 0, 140), 1);
        due("away of 9999", c.away(0, 0, 0, 0, 9999), 40);
        due("away of rate 1", c.away(0, 0, 0, 1, 0), 40);
        due("away of rate 2", c.away(0, 0, 0, 2, 0), 40);
        c.wave(0, 100);
        due("away of half", c.away(0, 0, 0, 0, 90), 50);
        due("S is 0", c.away(0, 1, 0, 0, 0), NO);
        due("NO counts", c.refused(1), 1);
        refusesBad(c, "away", 0, 1, 0, 0, -1);
        refusesBad(c, "away", 0, 1, 0, 0, 10000);
        refusesBad(c, "away", 0, 1, 0, 3, 0);
        refusesBad(c, "away", 0, 1, 3, 0, 0);
        c.shines(0, 0, 0, 4000);
        due("of a bright cell, too", c.away(0, 0, 0, 0, 90) >= 0 ? 1 : 0, 1);
    }

    private static void promise14Mark() {
        PhaseCells c = new PhaseCells();
        due("dark", c.mark(0, 0, 0), 2);
        c.sets(1, 0);
        due("S 0 is dark with LOW 0", c.mark(0, 0, 0), 2);
        lay(c, 0, 0, 0, 1, 0, 0, 0);
        due("strength 0.5 with LOW 0", c.mark(0, 0, 0), 0);
        c.sets(1, 1);
        due("0.5 is below 1", c.mark(0, 0, 0), 2);
        lay(c, 0, 0, 0, 2, 0, 0, 0);
        due("1 is not below 1", c.mark(0, 0, 0), 0);
        c.sample(0, 0, 0, 1, 0, 1);
        due("one rate is too dark", c.mark(0, 0, 0), 2);
        c.sample(0, 0, 0, 1, 0, 2);
        c.sets(2, 3);
        due("below BRIGHT", c.mark(0, 0, 0), 0);
        c.sets(2, 2);
        due("BRIGHT itself", c.mark(0, 0, 0), 1);
        c.sets(2, 4000);
        c.sample(0, 0, 0, 2, 3, 4000);
        due("one sample is bright", c.mark(0, 0, 0), 1);
        c.clears(0, 0, 0);
        c.sample(0, 0, 0, 2, 3, 4000);
        due("bright before dark", c.mark(0, 0, 0), 1);
        refusesBad(c, "mark", 0, 3, 0);
        refusesBad(c, "mark", 0, 0, 3);
        refusesBad(c, "mark", 2, 0, 0);
        refusesBad(c, "mark", 0, -1, 0);
        marksByNoise();
    }

    /** Waves of 100, 100, 100 with FAR 100: 0 fits and so does 100; both have misfit 0, so 0 is best. */
    private static void marksByNoise() {
        PhaseCells c = new PhaseCells();
        for (int k = 0; k < 3; k++) {
            c.wave(k, 100);
        }
        c.sets(3, 100);
        c.echo(0, 0, 0, 0, 1000);
        due("100 is further", c.mark(0, 0, 0), 3);
        c.sets(0, 49);
        due("100 is further than 98", c.mark(0, 0, 0), 3);
        c.sets(0, 50);
        due("100 is no further than 100", c.mark(0, 0, 0), 0);
        due("the least of like ones", c.cell(0, 0, 0, 0), 0);
        c.sets(0, 0);
        due("with no noise", c.mark(0, 0, 0), 3);
        c.wave(2, 101);
        c.clears(0, 0, 0);
        c.echo(0, 0, 0, 100, 1000);
        due("FAR itself is tried", c.mark(0, 0, 0), 0);
        due("its distance", c.cell(0, 0, 0, 0), 100);
        c.clears(0, 0, 0);
        c.echo(0, 0, 0, 101, 1000);
        due("beyond FAR, pairs: 1 by rates 0, 1", c.mark(0, 0, 0), 4);
        c.sets(3, 101);
        due("not beyond FAR", c.mark(0, 0, 0), 0);
        c.wave(0, 97);
        c.wave(1, 99);
        c.sets(3, 100);
        c.clears(0, 0, 0);
        c.echo(0, 0, 0, 9000, 1000);
        due("none fits two", c.mark(0, 0, 0), 5);
    }

    private static void promise15Cell() {
        PhaseCells c = new PhaseCells();
        c.echo(1, 0, 1, 4321, 700);
        due("distance", c.cell(1, 0, 1, 0), 4321);
        due("near of a measured one", c.cell(1, 0, 1, 1), NO);
        due("beyond of a measured one", c.cell(1, 0, 1, 2), NO);
        due("filled of a measured one", c.cell(1, 0, 1, 3), NO);
        due("distance of a dark one", c.cell(0, 0, 1, 0), NO);
        due("filled of a dark one", c.cell(0, 0, 1, 3), NONE);
        due("four refused", c.refused(1), 4);
        refusesBad(c, "cell", 0, 0, 1, 4);
        refusesBad(c, "cell", 0, 0, 1, -1);
        refusesBad(c, "cell", 0, 0, 3, 0);
        refusesBad(c, "cell", 2, 0, 0, 0);
        due("BAD comes first", c.refused(1), 4);
        cellOfMixed();
        bestBetweenResidues();
    }

    /**
     * Waves 10, 20, 30, no noise, residues 2, 12, 5, FAR 100: rates 0 and 1 agree on 12 first;
     * 0 and 2 never (2 and 5 by 10), nor do 1 and 2 (12 and 5 by 10). With rate 2 at 22 all agree on 52.
     */
    private static void cellOfMixed() {
        PhaseCells c = new PhaseCells();
        int[] waves = {10, 20, 30};
        int[] residues = {2, 12, 5};
        c.sets(3, 100);
        c.sets(0, 0);
        for (int k = 0; k < 3; k++) {
            c.wave(k, waves[k]);
            layResidue(c, k, residues[k], waves[k]);
            due("residue laid", c.of(0, 0, 0, k, 3), residues[k]);
        }
        due("mixed", c.mark(0, 0, 0), 4);
        due("near", c.cell(0, 0, 0, 1), 12);
        due("beyond", c.cell(0, 0, 0, 2), 12);
        due("no distance", c.cell(0, 0, 0, 0), NO);
        due("filled of a mixed one", c.cell(0, 0, 0, 3), NONE);
        layResidue(c, 2, 22, 30);
        due("all agree", c.cell(0, 0, 0, 0), 52);
        // 12 is of rates 0 and 2 and 1 now, 32 of 1 and 2 no more: 0 says 7, so 1 and 2 alone are left
        layResidue(c, 0, 7, 10);
        due("mixed by 1 and 2", c.mark(0, 0, 0), 4);
        due("near by 1 and 2", c.cell(0, 0, 0, 1), 52);
        // rates 0 and 2 alone: 5 and 15 agree at 15, rate 1 says an even one
        layResidue(c, 0, 5, 10);
        layResidue(c, 1, 4, 20);
        layResidue(c, 2, 15, 30);
        due("near by 0 and 2", c.cell(0, 0, 0, 1), 15);
        c.wave(0, 11);
        c.sets(3, 9999);
        layResidue(c, 0, 3, 11);
        layResidue(c, 1, 4, 20);
        layResidue(c, 2, 15, 30);
        // 3 by 11 and 4 by 20: 124; 3 by 11 and 15 by 30: 135; 4 by 20 and 15 by 30: none
        due("near of two", c.cell(0, 0, 0, 1), 124);
        due("beyond of two", c.cell(0, 0, 0, 2), 135);
    }

    /** The misfit is a sum of squares: residues 50, 50, 56 of nearly like waves are best fitted by 52. */
    private static void bestBetweenResidues() {
        PhaseCells c = new PhaseCells();
        int[] residues = {50, 50, 56};
        c.sets(3, 100);
        c.sets(0, 6);
        for (int k = 0; k < 3; k++) {
            c.wave(k, 200);
            layResidue(c, k, residues[k], 200);
        }
        due("best of three", c.cell(0, 0, 0, 0), 52);
        c.sets(0, 3);
        due("only 53 fits", c.cell(0, 0, 0, 0), 53);
        c.sets(0, 2);
        due("none fits all", c.mark(0, 0, 0), 4);
        due("rates 0 and 1", c.cell(0, 0, 0, 1), 50);
    }

    private static void promise15Filled() {
        PhaseCells c = new PhaseCells();
        c.sets(4, 100);
        c.echo(0, 1, 0, 1000, 400);
        c.echo(0, 2, 1, 2000, 500);
        c.echo(0, 1, 2, 3000, 600);
        c.echo(0, 0, 1, 4000, 440);
        c.echo(0, 0, 0, 777, 400);
        c.sets(1, 100);
        lay(c, 0, 1, 1, 200, 0, 0, 200);
        c.sample(0, 1, 1, 0, 0, 0);
        // glow 100 + 200 + 200 less: 600, 750, 900, 660 beside it
        due("its glow", c.glow(0, 1, 1), Float.floatToIntBits(500f));
        due("it is not measured", c.mark(0, 1, 1) == 0 ? 1 : 0, 0);
        float a = 1f / (1f + 100f / 100), b = 1f / (1f + 250f / 100), d = 1f / (1f + 400f / 100);
        float l = 1f / (1f + 160f / 100);
        float u = ((a + b) + d) + l;
        float t = ((a * 1000 + b * 2000) + d * 3000) + l * 4000;
        due("filled from all four", c.cell(0, 1, 1, 3), (int) (t / u));
        c.sets(4, 99);
        a = 1f / (1f + 100f / 99);
        b = 1f / (1f + 250f / 99);
        l = 1f / (1f + 160f / 99);
        due("one is too bright", c.cell(0, 1, 1, 3), (int) (((a * 1000 + b * 2000) + l * 4000) / ((a + b) + l)));
        c.sets(4, 25);
        due("one is like it", c.cell(0, 1, 1, 3), 1000);
        c.sets(4, 24);
        due("none is like it", c.cell(0, 1, 1, 3), NONE);
        c.sets(4, 500);
        // 2000 by 0.4 and 3000 by 0.357
        due("a corner's cells", c.cell(0, 2, 2, 3), 2471);
        // below it 2000 by 0.4, left of it 1000 by 0.4545
        due("another corner's cells", c.cell(0, 2, 0, 3), 1468);
        c.clears(0, 1, 0);
        c.clears(0, 2, 1);
        c.clears(0, 1, 2);
        due("from the left alone", c.cell(0, 1, 1, 3), 4000);
        c.clears(0, 0, 1);
        due("not from one askew", c.cell(0, 1, 1, 3), NONE);
        due("nor from the other exposure", c.echo(1, 1, 0, 1000, 400), 0);
        due("nor from the other exposure", c.cell(0, 1, 1, 3), NONE);
        due("filled itself", c.cell(0, 1, 0, 3), 777);
        due("filled ones fill none", c.cell(0, 2, 0, 3), NONE);
        filledInOrder(3819, 3818, 538, 739, 928, 987);
        filledInOrder(3454, 3454, 661, 726, 887, 705);
        PhaseCells least = new PhaseCells();
        least.sets(4, 1);
        least.sets(1, 3);
        least.echo(0, 0, 0, 0, 6);
        lay(least, 0, 1, 0, 5, 0, 0, 0);
        due("EDGE 1, 1.5 less", least.cell(0, 1, 0, 3), 0);
        lay(least, 0, 1, 0, 3, 0, 0, 0);
        due("EDGE 1, 4.5 less", least.cell(0, 1, 0, 3), NONE);
    }

    /** Floats added up in another order than above, right, below, left would come to one more or less. */
    private static void filledInOrder(int d, int want, int... strengths) {
        PhaseCells c = new PhaseCells();
        c.sets(4, 400);
        int[] x = {1, 2, 1, 0}, y = {0, 1, 2, 1};
        for (int i = 0; i < 4; i++) {
            c.echo(0, x[i], y[i], d, strengths[i]);
            due("beside it", c.cell(0, x[i], y[i], 0), d);
        }
        due("filled in order", c.cell(0, 1, 1, 3), want);
    }

    private static void promise16Glow() {
        PhaseCells c = new PhaseCells();
        due("glow of none", c.glow(0, 0, 0), 0);
        c.sample(0, 0, 0, 0, 0, 3);
        c.sample(0, 0, 0, 1, 1, 4);
        c.sample(0, 0, 0, 2, 3, 4095);
        due("glow", c.glow(0, 0, 0), Float.floatToIntBits((1.5f + 2f) + 2047.5f));
        c.sample(0, 0, 0, 2, 1, 4095);
        due("glow of what is left", c.glow(0, 0, 0), Float.floatToIntBits(3.5f));
        refusesBad(c, "glow", 0, 0, 3);
        refusesBad(c, "glow", 0, 3, 0);
        refusesBad(c, "glow", -1, 0, 0);
    }

    private static void promise17Motion() {
        PhaseCells c = new PhaseCells();
        c.grid(2, 4);
        due("motion of dark ones", c.motion(1, 3), NO);
        c.echo(0, 1, 3, 1500, 900);
        due("motion of one dark", c.motion(1, 3), NO);
        c.echo(1, 1, 3, 1400, 300);
        due("motion", c.motion(1, 3), -100);
        due("NO counts", c.refused(1), 2);
        c.echo(0, 0, 0, 1500, 900);
        c.echo(1, 0, 0, 1503, 900);
        due("motion of the first cell", c.motion(0, 0), 3);
        c.clears(0, 1, 3);
        due("motion of the other dark", c.motion(1, 3), NO);
        refusesBad(c, "motion", 2, 0);
        refusesBad(c, "motion", 0, 4);
        refusesBad(c, "motion", -1, 0);
        refusesBad(c, "motion", 0, -1);
    }

    private static void promise18Marks() {
        PhaseCells c = new PhaseCells();
        c.echo(0, 0, 0, 1500, 900);
        c.echo(0, 2, 2, 2500, 900);
        c.shines(0, 1, 2, 4000);
        int[] want = {2, 1, 6, 0, 0, 0};
        for (int m = 0; m < 6; m++) {
            due("marks " + m, c.marks(0, m), want[m]);
        }
        due("marks of 1", c.marks(1, 2), 9);
        c.grid(2, 1);
        due("cells of the grid alone", c.marks(0, 2), 2);
        refusesBad(c, "marks", 0, 6);
        refusesBad(c, "marks", 0, -1);
        refusesBad(c, "marks", 2, 0);
        refusesBad(c, "marks", -1, 0);
    }

    private static void promise19Moved() {
        PhaseCells c = new PhaseCells();
        due("none moved", c.moved(), 0);
        int[] first = {1000, 1000, 1000, 1000, 1000, 1000};
        int[] then = {1010, 1011, 990, 989, 1000, 2000};
        for (int i = 0; i < 6; i++) {
            c.echo(0, i % 3, i / 3, first[i], 800);
            c.echo(1, i % 3, i / 3, then[i], 800);
        }
        due("moved by more than 10", c.moved(), 3);
        c.sets(5, 11);
        due("moved by more than 11", c.moved(), 1);
        c.sets(5, 0);
        due("moved at all", c.moved(), 5);
        due("moved refuses nothing", c.refused(1) + c.refused(0), 0);
    }

    private static void promise20Mean() {
        PhaseCells c = new PhaseCells();
        due("mean of none", c.mean(0), 0);
        int[] d = {1000, 1001, 2003, 7, 12, 4999, 0};
        long sum = 0;
        for (int i = 0; i < d.length; i++) {
            c.echo(1, i % 3, i / 3, d[i], 800);
            sum += d[i];
            due("mean", c.mean(1), Double.doubleToLongBits((double) sum / (i + 1)));
        }
        c.shines(1, 2, 2, 4095);
        due("bright ones are left out", c.mean(1), Double.doubleToLongBits((double) sum / d.length));
        due("mean of the other", c.mean(0), 0);
        PhaseCells one = new PhaseCells();
        one.echo(0, 0, 0, 0, 800);
        due("mean of 0", one.mean(0), 0);
        one.echo(0, 1, 0, 1, 1000);
        due("mean of a half", one.mean(0), Double.doubleToLongBits(.5));
        refusesBad(c, "mean", 2);
        refusesBad(c, "mean", -1);
    }

    private static void promise21Told() {
        PhaseCells c = new PhaseCells();
        c.grid(4, 1);
        int[] waves = {11, 22, 33};
        int[] settings = {5, 6, 7, 108, 9, 8};
        for (int k = 0; k < 3; k++) {
            c.wave(k, waves[k]);
            due("told wave", c.told(2 + k), waves[k]);
        }
        for (int k = 0; k < 6; k++) {
            c.sets(k, settings[k]);
            due("told setting", c.told(5 + k), settings[k]);
        }
        due("told w", c.told(0), 4);
        due("told h", c.told(1), 1);
        refusesBad(c, "told", 11);
        refusesBad(c, "told", -1);
    }

    private static void promise22Type() {
        PhaseCells c = new PhaseCells();
        due("type 0", c.type(0), 1);
        due("type 127", c.type(127), 2);
        refusesBad(c, "type", 128);
        refusesBad(c, "type", -1);
        for (int i = 3; i <= 150; i++) {
            due("type on", c.type(32), i);
        }
        due("type 151", c.type(32), FULL);
        due("FULL counts", c.refused(2), 1);
        refusesBad(c, "type", 128);
        due("bytes", c.refused(3), 150);
        due("type leaves no state", c.refused(4), 0);
        due("clear", c.clear(), 150);
        due("type anew", c.type(32), 1);
    }

    private static void promise23Clear() {
        PhaseCells c = new PhaseCells();
        types(c, "g1 1;");
        due("clear", c.clear(), 5);
        due("clear again", c.clear(), 0);
        due("nothing is left to do", c.does(), -10);
        due("clear leaves no state", c.refused(4), 0);
    }

    private static void promise24DoesOrders() {
        PhaseCells c = new PhaseCells();
        due("all orders", does(c, "g4 2;v2 0999;s 4 7;e1 3 1 0 9;l0 2 1 30;l1 3 1 1;c0 0 0;"), 7);
        due("one state", c.refused(4), 1);
        due("g", c.told(0) * 10 + c.told(1), 42);
        due("v", c.told(4), 999);
        due("s", c.told(9), 7);
        due("e", c.raw(1, 3, 1, 2, 0), 10);
        due("l", c.raw(0, 2, 1, 1, 3), 30);
        due("the text stays", c.refused(3), 56);
        due("done again", c.does(), 7);
        due("two states", c.refused(4), 2);
        due("e at a distance", does(c, "c1 3 1;e1 3 1 2345 800;"), 2);
        due("its distance", c.cell(1, 3, 1, 0), 2345);
        due("c", does(c, "c0 2 1;"), 1);
        due("c cleared", c.raw(0, 2, 1, 1, 3), 0);
        due("blanks everywhere", does(c, "  g  1   1  ;  v 0   10 ;  "), 2);
        due("blanks told", c.told(2), 10);
        due("no blank needed", does(c, "g4 4;g1 1;"), 2);
        due("four figures", does(c, "g0003 0002;"), 1);
        due("four figures told", c.told(0) * 10 + c.told(1), 32);
        StringBuilder many = new StringBuilder();
        for (int i = 0; i < 30; i++) {
            many.append("g1 1;");
        }
        due("thirty orders", does(c, many.toString()), 30);
        due("back over all orders", c.back(), 4);
        due("as before", c.told(0) * 10 + c.told(1), 32);
    }

    private static void promise24DoesFaults() {
        PhaseCells c = new PhaseCells();
        String[] texts = {"", " ", "   ", ";", "x", "g", "g1", "g1 1", "g1 1 ", "g1 1;;", "g1 1;g", "g1;", "g;", "g11;",
            "g1 1 1;", "g12345 1;", "g1 12345;", "g1 1;G1 1;", "gg1 1;", "g-1 1;", "v0 10,;", "g1\t1;", "e0 0 0 0;",
            "e0 0 0 0 1 1;", "l0 0 0;", "c0 0;", "c0 0 0 0;", "g1 1;  ", "1", " g1 1;1", "g1 1; x", "v0 1 0;",
            "g00001 1;", "g9 9;x", "h1 1;", "s0 1:"};
        int[] faults = {0, 1, 3, 0, 0, 1, 2, 4, 5, 5, 6, 2, 1, 3,
            5, 5, 7, 5, 1, 1, 5, 2, 8,
            11, 6, 4, 7, -1, 0, 6, 6, 5,
            5, 5, 0, 4};
        for (int i = 0; i < texts.length; i++) {
            int states = c.refused(4);
            due("fault of '" + texts[i] + "'", does(c, texts[i]), faults[i] < 0 ? 1 : -10 - faults[i]);
            due("no state by a fault", c.refused(4), faults[i] < 0 ? states + 1 : states);
        }
        due("only one was done", c.refused(4), 1);
        due("faults are not counted", c.refused(0) + c.refused(1) + c.refused(2), 0);
        due("nothing is done before a fault", does(c, "v0 100;x"), -17);
        due("nothing was done", c.told(2), 500);
        due("a full text that ends early", does(c, "g1 1" + " ".repeat(146)), -160);
    }

    private static void promise24DoesEndsAll() {
        PhaseCells c = new PhaseCells();
        c.sample(0, 2, 2, 2, 2, 22);
        String[] texts = {"g5 1;", "g1 1;g0 1;", "g1 1;v0 100;v3 100;", "v0 9;", "s6 0;", "s0 50;s0 51;", "e2 0 0 0 1;",
            "e0 3 0 0 1;", "e0 0 0 0 0;", "e0 0 0 0 1001;", "l0 0 0 0;", "l0 0 0 4096;", "c0 0 3;", "c2 0 0;",
            "g1 1;c0 1 0;", "v0 10;v0 2001;x"};
        int[] want = {-1000, -1001, -1002, -1000, -1000, -1001, -1000,
            -1000, -1000, -1000, -1000, -1000, -1000, -1000,
            -1001, -10 - 14};
        for (int i = 0; i < texts.length; i++) {
            due("does '" + texts[i] + "'", does(c, texts[i]), want[i]);
            due("nothing is done", c.raw(0, 2, 2, 2, 2), 22);
            due("no wave changed", c.told(2), 500);
            due("no setting changed", c.told(5), 4);
            due("no state", c.refused(4), 1);
        }
        due("an order counts as little", c.refused(0), 0);
        due("cells by the new grid", does(c, "g4 4;c0 3 3;"), 2);
        for (int i = 0; i < 5; i++) {
            c.wave(0, 100 + i);
        }
        does(c, "g1 1;g9 9;");
        due("a refused text loses no state", c.refused(4), 5);
        for (int i = 4; i >= 0; i--) {
            due("back", c.back(), i);
        }
        due("the oldest is here", c.told(2), 500);
        due("the grid is here", c.told(0), 4);
    }

    private static void promise25Back() {
        PhaseCells c = new PhaseCells();
        due("back of none", c.back(), NO);
        due("NO counts", c.refused(1), 1);
        c.echo(0, 0, 0, 1234, 800);
        c.wave(1, 701);
        c.wave(1, 701);
        c.sets(0, 9);
        types(c, "abc");
        due("back of sets", c.back(), 3);
        due("sets undone", c.told(5), 4);
        due("back of nothing changed", c.back(), 2);
        due("still the same", c.told(3), 701);
        due("back of wave", c.back(), 1);
        due("wave undone", c.told(3), 700);
        due("measured yet", c.mark(0, 0, 0), 0);
        due("back of echo", c.back(), 0);
        due("no longer measured", c.mark(0, 0, 0), 2);
        due("back is over", c.back(), NO);
        due("the text stays", c.refused(3), 3);
        due("how often stays", c.refused(1), 2);
        for (int i = 0; i < 7; i++) {
            c.sample(0, 1, 1, 0, 0, i + 1);
            due("states", c.refused(4), Math.min(5, i + 1));
        }
        for (int i = 4; i >= 0; i--) {
            due("back of seven", c.back(), i);
            due("back of seven, sample", c.raw(0, 1, 1, 0, 0), i + 2);
        }
        due("two are lost", c.back(), NO);
        c.grid(2, 2);
        c.back();
        due("the grid comes back", c.told(0) * 10 + c.told(1), 33);
        due("with its samples", c.raw(0, 1, 1, 0, 0), 2);
        backKeepsNothingOld();
        backOfEachCall();
    }

    private static void backOfEachCall() {
        String[] names = {"grid", "wave", "sets", "sample", "echo", "shines", "clears"};
        int[][] numbers = {{2, 2}, {1, 77}, {3, 777}, {0, 1, 1, 1, 1, 1}, {0, 1, 1, 1, 1}, {0, 1, 1, 1}, {0, 1, 1}};
        for (int i = 0; i < names.length; i++) {
            PhaseCells c = new PhaseCells();
            c.shines(0, 1, 1, 9);
            c.wave(2, 1000);
            long digest = c.digest();
            Face.call(c, names[i], numbers[i]);
            due("a state by " + names[i], c.refused(4), 3);
            due("a change by " + names[i], c.digest() == digest ? 1 : 0, 0);
            due("back of " + names[i], c.back(), 2);
            due("all as before " + names[i], c.digest(), digest);
        }
    }

    /** What was reckoned before a change must not be told after going back over it. */
    private static void backKeepsNothingOld() {
        PhaseCells c = new PhaseCells();
        c.echo(0, 0, 0, 1234, 800);
        due("distance", c.cell(0, 0, 0, 0), 1234);
        c.clears(0, 0, 0);
        c.echo(0, 0, 0, 2222, 800);
        due("new distance", c.cell(0, 0, 0, 0), 2222);
        c.back();
        due("dark between", c.mark(0, 0, 0), 2);
        c.back();
        due("old distance", c.cell(0, 0, 0, 0), 1234);
        does(c, "c0 0 0;");
        due("dark by an order", c.mark(0, 0, 0), 2);
        c.back();
        does(c, "c0 0 0;c0 0 9;");
        due("not dark by a refused order", c.cell(0, 0, 0, 0), 1234);
    }

    private static void promise26Refused() {
        PhaseCells c = new PhaseCells();
        c.grid(0, 0);
        c.mean(7);
        c.back();
        types(c, " ".repeat(152));
        c.wave(0, 10);
        due("refused BAD", c.refused(0), 2);
        due("refused NO", c.refused(1), 1);
        due("refused FULL", c.refused(2), 2);
        due("bytes", c.refused(3), 150);
        due("states", c.refused(4), 1);
        due("refused 5", c.refused(5), BAD);
        due("refused -1", c.refused(-1), BAD);
        due("they count, too", c.refused(0), 4);
        c.back();
        due("back changes no count", c.refused(0), 4);
        c.does();
        due("does counts nothing", c.refused(0) + c.refused(1) + c.refused(2), 7);
    }

    private static void promise27Digest() {
        PhaseCells c = new PhaseCells();
        c.grid(2, 1);
        c.echo(0, 0, 0, 1000, 400);
        c.wave(9, 9);
        c.back();
        c.echo(0, 0, 0, 1000, 400);
        c.type(32);
        long h = 1689;
        long[] head = {1, 0, 0, 1, 2, 2, 1, 500, 700, 1100, 4, 20, 4000, 5000, 50, 10};
        for (long v : head) {
            h = 31 * h + v;
        }
        for (int k = 0; k < 3; k++) {
            for (int i = 0; i < 4; i++) {
                h = 31 * h + c.raw(0, 0, 0, k, i);
            }
        }
        h = 31 * h;
        h = 31 * h + 1000;
        for (int cell = 0; cell < 3; cell++) {
            for (int i = 0; i < 12; i++) {
                h = 31 * h;
            }
            h = 31 * h + 2;
            h = 31 * h + NONE;
        }
        h = 31 * h + Double.doubleToLongBits(1000.0);
        h = 31 * h;
        due("digest", c.digest(), h);
        due("digest again", c.digest(), h);
        digestOfMixed();
    }

    /** A mixed cell tells near, beyond and filled; beside it is a measured one that fills it. */
    private static void digestOfMixed() {
        PhaseCells c = new PhaseCells();
        c.grid(1, 2);
        c.sets(0, 0);
        c.sets(4, 500);
        for (int k = 0; k < 3; k++) {
            c.wave(k, new int[] {11, 20, 30}[k]);
            layResidue(c, k, new int[] {3, 4, 15}[k], new int[] {11, 20, 30}[k]);
        }
        c.echo(0, 0, 1, 100, 1000);
        c.sets(3, 200);
        long h = 1689;
        for (int what = 0; what < 5; what++) {
            h = 31 * h + c.refused(what);
        }
        for (int what = 0; what < 11; what++) {
            h = 31 * h + c.told(what);
        }
        long[] tails = {4, 124, 135, 100, 0, 100, 2, NONE, 2, NONE};
        int[] first = {0, 4, 6, 8, 10};
        for (int cell = 0; cell < 4; cell++) {
            for (int i = 0; i < 12; i++) {
                h = 31 * h + c.raw(cell / 2, 0, cell % 2, i / 4, i % 4);
            }
            for (int i = first[cell]; i < first[cell + 1]; i++) {
                h = 31 * h + tails[i];
            }
        }
        h = 31 * h + Double.doubleToLongBits(100.0);
        due("digest of a mixed one", c.digest(), 31 * h);
    }
}
