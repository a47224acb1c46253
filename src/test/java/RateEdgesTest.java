/** Rates at their edges: light that is cut at 4095, quarters of a wave, whole waves, halves that are rounded. */
public final class RateEdgesTest extends Checks {
    private RateEdgesTest() {
    }

    public static void main(String[] args) {
        phaseOnTheAxes();
        phaseOfLeastAndMost();
        strengthOfOddS();
        residueRoundsHalvesUp();
        residueOfAWholeWave();
        residueFollowsTheWave();
        awayTurnsAtHalfAWave();
        awayOfTheEnds();
        awayOfSNought();
        echoOnTheAxes();
        echoBesideTheAxes();
        echoOfWholeWaves();
        echoOfStrengthOne();
        echoCutsB();
        echoIsCutAt4095();
        shinesIsCutAt4095();
        clearsCounts();
        gridClearsAll();
        ends("all edges of rates are as due");
    }

    private static void phase(String what, float want, int... four) {
        PhaseCells c = new PhaseCells();
        lay(c, 1, 0, 2, four);
        for (int k = 0; k < 3; k++) {
            due("phase of " + what, c.bits(1, 0, 2, k, 1), Float.floatToIntBits(want));
        }
    }

    /** X and Y of 0: which side each axis belongs to. */
    private static void phaseOnTheAxes() {
        phase("X above, Y 0", 0f, 9, 5, 2, 5);
        phase("X 0, Y above", 1f, 5, 9, 5, 2);
        phase("X below, Y 0", 2f, 2, 5, 9, 5);
        phase("X 0, Y below", 3f, 5, 2, 5, 9);
        phase("X and Y above", 0.5f, 1, 1, 0, 0);
        phase("X below, Y above", 1.5f, 0, 1, 1, 0);
        phase("X and Y below", 2.5f, 0, 0, 1, 1);
        phase("X above, Y below", 3.5f, 1, 0, 0, 1);
        phase("S of 0", -1f, 0, 0, 0, 0);
        phase("S of 0 in light", -1f, 4095, 17, 4095, 17);
    }

    private static void phaseOfLeastAndMost() {
        phase("the least", 1f / 4096f, 4095, 1, 0, 0);
        phase("just below 1", 4095f / 4096f, 1, 4095, 0, 0);
        phase("just above 1", 2f - 4095f / 4096f, 0, 4095, 1, 0);
        phase("just below 2", 2f - 1f / 4096f, 0, 1, 4095, 0);
        phase("just above 2", 2f + 1f / 4096f, 0, 0, 4095, 1);
        phase("just below 3", 2f + 4095f / 4096f, 0, 0, 1, 4095);
        phase("just above 3", 4f - 4095f / 4096f, 1, 0, 0, 4095);
        phase("the greatest", 4f - 1f / 4096f, 4095, 0, 0, 1);
        // a third is no whole float: the steps are taken in float, one by one
        phase("a third less", 4f + -1f / 3f, 2, 0, 0, 1);
        phase("a third more", 2f - -1f / 3f, 0, 0, 2, 1);
    }

    private static void strengthOfOddS() {
        PhaseCells c = new PhaseCells();
        int[] s = {0, 1, 2, 3, 4095};
        float[] want = {0f, 0.5f, 1f, 1.5f, 2047.5f};
        for (int i = 0; i < s.length; i++) {
            layRate(c, 0, 0, 0, 1, 0, 0, 0, s[i]);
            due("S", c.of(0, 0, 0, 1, 2), s[i]);
            due("strength of S " + s[i], c.bits(0, 0, 0, 1, 0), Float.floatToIntBits(want[i]));
        }
        layRate(c, 0, 0, 0, 1, 4095, 4094, 0, 0);
        due("strength of 8189", c.bits(0, 0, 0, 1, 0), Float.floatToIntBits(4094.5f));
        due("other rates have none", c.bits(0, 0, 0, 0, 0) + c.bits(0, 0, 0, 2, 0), 0);
    }

    private static int residueOf(int wave, int... four) {
        PhaseCells c = new PhaseCells();
        c.wave(2, wave);
        layRate(c, 0, 1, 1, 2, four);
        return c.of(0, 1, 1, 2, 3);
    }

    /** (int) (P * WAVE / 4 + 0.5): a half is rounded up, less is cut. */
    private static void residueRoundsHalvesUp() {
        due("1 of 10: 2.5", residueOf(10, 0, 1, 0, 0), 3);
        due("3 of 10: 7.5", residueOf(10, 0, 0, 0, 1), 8);
        due("just below 2.5", residueOf(10, 1, 1999, 0, 0), 2);
        due("2 of 11: 5.5", residueOf(11, 0, 0, 1, 0), 6);
        due("1 of 11: 2.75", residueOf(11, 0, 1, 0, 0), 3);
        due("1 of 13: 3.25", residueOf(13, 0, 1, 0, 0), 3);
        due("0.5 of 12: 1.5", residueOf(12, 7, 7, 0, 0), 2);
        due("0 of 2000", residueOf(2000, 1, 0, 0, 0), 0);
        due("3.5 of 2000", residueOf(2000, 1, 0, 0, 1), 1750);
    }

    /** "by WAVE left over": what is rounded up to a whole WAVE is 0. */
    private static void residueOfAWholeWave() {
        // 4f + -0.2f is 3.8f, by 10 it is 38f: 9.5f + 0.5f
        due("3.8 of 10", residueOf(10, 4, 0, 0, 1), 0);
        due("more than 3.8 of 10", residueOf(10, 401, 0, 0, 99), 0);
        due("less than 3.8 of 10", residueOf(10, 799, 0, 0, 201), 9);
        due("3.9998 of 2000", residueOf(2000, 4095, 0, 0, 1), 0);
        due("3.998 of 2000", residueOf(2000, 1996, 0, 0, 4), 1999);
        due("3.999 of 2000: 1999.5", residueOf(2000, 999, 0, 0, 1), 0);
    }

    private static void residueFollowsTheWave() {
        PhaseCells c = new PhaseCells();
        layRate(c, 0, 0, 0, 0, 0, 0, 1, 0);
        int[] waves = {10, 11, 500, 1999, 2000};
        int[] want = {5, 6, 250, 1000, 1000};
        for (int i = 0; i < waves.length; i++) {
            c.wave(0, waves[i]);
            due("half of " + waves[i], c.of(0, 0, 0, 0, 3), want[i]);
        }
    }

    /** "or WAVE less that, if less", of an even WAVE and an odd one. */
    private static void awayTurnsAtHalfAWave() {
        PhaseCells c = new PhaseCells();
        c.wave(0, 10);
        c.wave(1, 11);
        lay(c, 0, 0, 0, 1, 0, 0, 0);
        int[] even = {0, 1, 2, 3, 4, 5, 4, 3, 2, 1, 0, 1};
        int[] odd = {0, 1, 2, 3, 4, 5, 5, 4, 3, 2, 1, 0};
        for (int d = 0; d < 12; d++) {
            due("away of " + d + " by 10", c.away(0, 0, 0, 0, d), even[d]);
            due("away of " + d + " by 11", c.away(0, 0, 0, 1, d), odd[d]);
        }
        // residue 3: d below it turns the other way
        layRate(c, 0, 0, 0, 0, 0, 1, 0, 0);
        int[] below = {3, 2, 1, 0, 1, 2, 3, 4, 5, 4, 3, 2};
        for (int d = 0; d < 12; d++) {
            due("away of " + d + " from 3 by 10", c.away(0, 0, 0, 0, d), below[d]);
        }
    }

    private static void awayOfTheEnds() {
        PhaseCells c = new PhaseCells();
        c.wave(0, 2000);
        c.wave(1, 10);
        layResidue(c, 0, 1999, 2000);
        lay(c, 0, 1, 0, 1, 0, 0, 0);
        due("residue 1999", c.of(0, 0, 0, 0, 3), 1999);
        due("0 is one from 1999", c.away(0, 0, 0, 0, 0), 1);
        due("9999 is 1999", c.away(0, 0, 0, 0, 9999), 0);
        due("999 is the furthest", c.away(0, 0, 0, 0, 999), 1000);
        due("1000 is less far", c.away(0, 0, 0, 0, 1000), 999);
        due("998 is less far", c.away(0, 0, 0, 0, 998), 999);
        due("9999 by 10", c.away(0, 1, 0, 1, 9999), 1);
        due("9999 by 1100", c.away(0, 1, 0, 2, 9999), 99);
    }

    /** AWAY needs no MARK, only an S. */
    private static void awayOfSNought() {
        PhaseCells c = new PhaseCells();
        due("S is 0", c.away(0, 0, 0, 0, 0), NO);
        c.sample(0, 0, 0, 0, 0, 1);
        due("S is 1, dark", c.away(0, 0, 0, 0, 7), 7);
        due("another rate's S is 0", c.away(0, 0, 0, 1, 7), NO);
        c.sample(0, 0, 0, 0, 2, 1);
        due("S is 0 in light", c.away(0, 0, 0, 0, 7), NO);
        c.sample(0, 0, 0, 0, 0, 4095);
        due("bright", c.mark(0, 0, 0), 1);
        due("away of a bright one", c.away(0, 0, 0, 0, 7), 7);
        due("away beyond FAR", c.away(0, 0, 0, 0, 9999), 1);
    }

    private static void samples(String what, PhaseCells c, int k, int... want) {
        for (int i = 0; i < 4; i++) {
            due(what + ", A" + i, c.raw(0, 0, 0, k, i), want[i]);
        }
    }

    private static PhaseCells echoed(int d, int s, int... waves) {
        PhaseCells c = new PhaseCells();
        for (int k = 0; k < 3; k++) {
            c.wave(k, waves[k % waves.length]);
        }
        due("echo of " + d, c.echo(0, 0, 0, d, s), 0);
        return c;
    }

    /** t of 0, 1, 2 and 3: one sample alone. */
    private static void echoOnTheAxes() {
        samples("t 0", echoed(0, 700, 100), 0, 700, 0, 0, 0);
        samples("t 1", echoed(25, 700, 100), 1, 0, 700, 0, 0);
        samples("t 2", echoed(50, 700, 100), 2, 0, 0, 700, 0);
        samples("t 3", echoed(75, 700, 100), 0, 0, 0, 0, 700);
    }

    /** A 25th of a quarter on either side; 4f * r / 100 less a whole number is no whole float, so b may be one less. */
    private static void echoBesideTheAxes() {
        samples("t 0.96", echoed(24, 1000, 100), 0, 40, 960, 0, 0);
        samples("t 1.04", echoed(26, 1000, 100), 0, 0, 1000 - (int) (1000 * (1.04f - 1f)), (int) (1000 * (1.04f - 1f)), 0);
        samples("t 1.96", echoed(49, 1000, 100), 1, 0, 1000 - (int) (1000 * (1.96f - 1f)), (int) (1000 * (1.96f - 1f)), 0);
        samples("t 2.04", echoed(51, 1000, 100), 1, 0, 0, 1000 - (int) (1000 * (2.04f - 2f)), (int) (1000 * (2.04f - 2f)));
        samples("t 2.96", echoed(74, 1000, 100), 2, 0, 0, 1000 - (int) (1000 * (2.96f - 2f)), (int) (1000 * (2.96f - 2f)));
        samples("t 3.04", echoed(76, 1000, 100), 2, (int) (1000 * (3.04f - 3f)), 0, 0, 1000 - (int) (1000 * (3.04f - 3f)));
        samples("t 3.96", echoed(99, 1000, 100), 0, (int) (1000 * (3.96f - 3f)), 0, 0, 1000 - (int) (1000 * (3.96f - 3f)));
        samples("t 0.04", echoed(1, 1000, 100), 0, 960, 40, 0, 0);
    }

    /** "r is d by WAVE left over". */
    private static void echoOfWholeWaves() {
        PhaseCells c = echoed(2000, 600, 10, 2000, 1999);
        samples("2000 by 10", c, 0, 600, 0, 0, 0);
        samples("2000 by 2000", c, 1, 600, 0, 0, 0);
        // r 1: t is 4 / 1999, b is (int) 1.2
        samples("2000 by 1999", c, 2, 599, 1, 0, 0);
        c = echoed(9999, 1000, 10, 2000, 1100);
        // r 9: t 3.6, b 599 (0.5999999 of 1000)
        samples("9999 by 10", c, 0, 599, 0, 0, 401);
        // r 1999: t 3.998, b 997 (0.9979999 of 1000)
        samples("9999 by 2000", c, 1, 997, 0, 0, 3);
        // r 99: t 0.36
        samples("9999 by 1100", c, 2, 640, 360, 0, 0);
    }

    /** Strength 1: b is 0 wherever t is no whole number, too. */
    private static void echoOfStrengthOne() {
        samples("0.96", echoed(24, 1, 100), 0, 1, 0, 0, 0);
        samples("1", echoed(25, 1, 100), 0, 0, 1, 0, 0);
        samples("1.96", echoed(49, 1, 100), 0, 0, 1, 0, 0);
        samples("2.96", echoed(74, 1, 100), 0, 0, 0, 1, 0);
        samples("3.96", echoed(99, 1, 100), 0, 0, 0, 0, 1);
        // strength 2 at 0.5: one of each
        samples("0.5 and 2", echoed(1, 2, 8 * 10, 16), 1, 2, 0, 0, 0);
        samples("0.5 of 16", echoed(2, 2, 16), 0, 1, 1, 0, 0);
        samples("1.5 of 16", echoed(6, 2, 16), 0, 0, 1, 1, 0);
        samples("2.5 of 16", echoed(10, 2, 16), 0, 0, 0, 1, 1);
        samples("3.5 of 16", echoed(14, 2, 16), 0, 1, 0, 0, 1);
    }

    /** (int) cuts: 7 by 0.36 is 2.52, b is 2. */
    private static void echoCutsB() {
        samples("first quarter", echoed(9, 7, 100), 0, 5, 2, 0, 0);
        samples("second quarter", echoed(34, 7, 100), 0, 0, 5, 2, 0);
        samples("third quarter", echoed(59, 7, 100), 0, 0, 0, 5, 2);
        samples("last quarter", echoed(84, 7, 100), 0, 2, 0, 0, 5);
    }

    /** "4095 at most each": each of the four, one by one, one below it, at it, above it. */
    private static void echoIsCutAt4095() {
        int[] d = {0, 25, 50, 75};
        for (int i = 0; i < 4; i++) {
            for (int k = 0; k < 3; k++) {
                PhaseCells c = new PhaseCells();
                c.wave(0, 100);
                c.wave(1, 100);
                c.wave(2, 100);
                c.sample(0, 0, 0, k, i, 3094);
                due("to 4094", c.echo(0, 0, 0, d[i], 1000), 0);
                due("is 4094", c.raw(0, 0, 0, k, i), 4094);
                due("to 4095", c.echo(0, 0, 0, d[i], 1), 1);
                due("is 4095", c.raw(0, 0, 0, k, i), 4095);
                due("no more", c.echo(0, 0, 0, d[i], 1000), 1);
                due("is 4095 yet", c.raw(0, 0, 0, k, i), 4095);
                due("the others got theirs", c.raw(0, 0, 0, (k + 1) % 3, i), 2001);
                due("the one across got none", c.raw(0, 0, 0, k, (i + 2) % 4), 0);
                due("a full one elsewhere counts", c.sample(0, 0, 0, k, (i + 1) % 4, 4095), 0);
                due("two then", c.echo(0, 0, 0, d[i], 1), 2);
            }
        }
    }

    /** "4095 at most: how many are 4095 then". */
    private static void shinesIsCutAt4095() {
        PhaseCells c = new PhaseCells();
        due("the least", c.shines(0, 2, 2, 1), 0);
        due("to 4094", c.shines(0, 2, 2, 4093), 0);
        due("to 4095", c.shines(0, 2, 2, 1), 12);
        due("above", c.shines(0, 2, 2, 1), 12);
        due("the greatest above", c.shines(0, 2, 2, 4095), 12);
        for (int i = 0; i < 12; i++) {
            due("4095 each", c.raw(0, 2, 2, i / 4, i % 4), 4095);
        }
        due("the greatest at once", c.shines(1, 2, 2, 4095), 12);
        for (int i = 0; i < 12; i++) {
            c.sample(1, 0, 0, i / 4, i % 4, 4090 + i % 7);
        }
        // 4090 to 4095, then 0, for 4096 is BAD, then 4090 to 4094
        due("one of twelve", c.refused(0), 1);
        due("4093, 4094, 4095, 4093, 4094 by 2 more", c.shines(1, 0, 0, 2), 5);
        due("of 0", c.raw(1, 0, 0, 1, 2), 2);
    }

    private static void clearsCounts() {
        PhaseCells c = new PhaseCells();
        due("none", c.clears(0, 1, 1), 0);
        for (int n = 1; n <= 12; n++) {
            for (int i = 0; i < n; i++) {
                c.sample(0, 1, 1, i / 4, i % 4, 1);
            }
            due("how many were not 0", c.clears(0, 1, 1), n);
            due("none then", c.clears(0, 1, 1), 0);
        }
        c.shines(0, 1, 1, 4095);
        c.shines(1, 1, 1, 1);
        due("full ones", c.clears(0, 1, 1), 12);
        due("the other exposure stays", c.clears(1, 1, 1), 12);
    }

    /** From each size to each: how many cells it had, and every sample is 0 then. */
    private static void gridClearsAll() {
        for (int size = 0; size < 16; size++) {
            PhaseCells c = new PhaseCells();
            int w = 1 + size % 4, h = 1 + size / 4;
            due("from 3 by 3", c.grid(w, h), 9);
            for (int e = 0; e < 2; e++) {
                c.shines(e, 0, 0, 5);
                c.shines(e, w - 1, h - 1, 5);
            }
            c.wave(0, 77);
            c.sets(5, 7);
            due("to the same", c.grid(w, h), w * h);
            due("all dark", c.marks(0, 2) + c.marks(1, 2), 2 * w * h);
            due("the first is 0", c.clears(0, 0, 0) + c.clears(1, 0, 0), 0);
            due("the last is 0", c.clears(0, w - 1, h - 1) + c.clears(1, w - 1, h - 1), 0);
            due("waves and settings stay", c.told(2) * 10 + c.told(10), 777);
            due("to the greatest", c.grid(4, 4), w * h);
            due("to the least", c.grid(1, 1), 16);
        }
    }
}
