import java.util.Arrays;

/** Cells at their edges: marks, distances that just fit, pairs of rates, filled ones, motion, means. */
public final class CellEdgesTest extends Checks {
    private static final int[] SAME = {2000, 2000, 2000};

    private CellEdgesTest() {
    }

    public static void main(String[] args) {
        brightByEachSample();
        brightAtTheEndsOfItsRange();
        darkByEachRate();
        darkAtTheEndsOfItsRange();
        fitsJustWithinNoise();
        fitsFromNoughtToFar();
        bestOfLikeOnesIsTheLeast();
        bestIsOfLeastMisfit();
        measuredWithinTwiceNoise();
        doubtfulEitherWay();
        mixedByEachPair();
        mixedByAllPairs();
        bestOfAPairIsTheLeast();
        noneFitsTwo();
        wrapsAtWholeWaves();
        cellByMark();
        motionAtTheEnds();
        movedByMoreThanStep();
        meanAtTheEnds();
        marksOfAllKinds();
        ends("all edges of cells are as due");
    }

    /** "if any SAMPLE of it is BRIGHT or more". */
    private static void brightByEachSample() {
        for (int i = 0; i < 12; i++) {
            PhaseCells c = new PhaseCells();
            c.echo(0, 1, 1, 1000, 500);
            c.sample(0, 1, 1, i / 4, i % 4, 3999);
            due("below BRIGHT " + i, c.mark(0, 1, 1) == 1 ? 1 : 0, 0);
            c.sample(0, 1, 1, i / 4, i % 4, 4000);
            due("BRIGHT " + i, c.mark(0, 1, 1), 1);
            c.sample(0, 1, 1, i / 4, i % 4, 4095);
            due("above BRIGHT " + i, c.mark(0, 1, 1), 1);
            due("the other exposure is not", c.mark(1, 1, 1), 2);
        }
    }

    private static void brightAtTheEndsOfItsRange() {
        PhaseCells c = new PhaseCells();
        c.sets(2, 1);
        due("all 0 is dark", c.mark(0, 0, 0), 2);
        c.sample(0, 0, 0, 2, 3, 1);
        due("1 is bright", c.mark(0, 0, 0), 1);
        c.sets(2, 4095);
        due("1 is not", c.mark(0, 0, 0), 2);
        c.sample(0, 0, 0, 2, 3, 4094);
        due("4094 is not", c.mark(0, 0, 0), 2);
        c.sample(0, 0, 0, 2, 3, 4095);
        due("4095 is, dark or not", c.mark(0, 0, 0), 1);
    }

    /** "if a RATE's S is 0 or its STRENGTH below LOW": 20 is not below 20, 19.5 is. */
    private static void darkByEachRate() {
        for (int k = 0; k < 3; k++) {
            PhaseCells c = new PhaseCells();
            lay(c, 0, 0, 0, 40, 0, 0, 0);
            due("20 each", c.mark(0, 0, 0), 0);
            c.sample(0, 0, 0, k, 0, 39);
            due("19.5 of rate " + k, c.mark(0, 0, 0), 2);
            c.sample(0, 0, 0, k, 0, 41);
            due("20.5 of rate " + k, c.mark(0, 0, 0), 0);
            c.sample(0, 0, 0, k, 2, 41);
            due("none of rate " + k, c.mark(0, 0, 0), 2);
        }
    }

    private static void darkAtTheEndsOfItsRange() {
        PhaseCells c = new PhaseCells();
        c.sets(1, 0);
        due("S 0 with LOW 0", c.mark(0, 0, 0), 2);
        lay(c, 0, 0, 0, 1, 0, 0, 0);
        due("S 1 with LOW 0", c.mark(0, 0, 0), 0);
        for (int k = 0; k < 3; k++) {
            c.sample(0, 0, 0, k, 0, 0);
            due("S 0 of rate " + k + " with LOW 0", c.mark(0, 0, 0), 2);
            c.sample(0, 0, 0, k, 0, 1);
        }
        c.sets(1, 2000);
        lay(c, 0, 0, 0, 3999, 1, 0, 0);
        due("2000 with LOW 2000", c.mark(0, 0, 0) == 2 ? 1 : 0, 0);
        lay(c, 0, 0, 0, 3999, 0, 0, 0);
        due("1999.5 with LOW 2000", c.mark(0, 0, 0), 2);
    }

    /** Residues 100 and 108: 104 is 4 from either; each rate in turn is the one apart. */
    private static void fitsJustWithinNoise() {
        for (int apart = 0; apart < 3; apart++) {
            int[] residues = {100, 100, 100};
            residues[apart] = 108;
            PhaseCells c = withResidues(SAME, residues);
            c.sets(3, 1000);
            due("104 fits with NOISE 4", c.mark(0, 0, 0), 0);
            due("it alone", c.cell(0, 0, 0, 0), 104);
            c.sets(0, 3);
            due("none with NOISE 3", c.mark(0, 0, 0), 4);
            due("near by the two alike", c.cell(0, 0, 0, 1), 100);
            due("beyond by the two alike", c.cell(0, 0, 0, 2), 100);
        }
        PhaseCells c = withResidues(SAME, new int[] {300, 300, 300});
        c.sets(3, 1000);
        c.sets(0, 0);
        due("NOISE 0", c.cell(0, 0, 0, 0), 300);
        c = withResidues(SAME, new int[] {300, 301, 300});
        c.sets(3, 1000);
        c.sets(0, 0);
        due("NOISE 0, one apart", c.mark(0, 0, 0), 4);
        c.sets(0, 1);
        due("NOISE 1, one apart", c.cell(0, 0, 0, 0), 300);
        c = withResidues(SAME, new int[] {300, 400, 350});
        c.sets(3, 1000);
        c.sets(0, 50);
        due("NOISE 50", c.cell(0, 0, 0, 0), 350);
        c.sets(0, 49);
        due("NOISE 49: pairs of 50 apart fit", c.mark(0, 0, 0), 4);
        // 325 and 375 are best of 300, 350 and of 350, 400
        due("near", c.cell(0, 0, 0, 1), 325);
        due("beyond", c.cell(0, 0, 0, 2), 375);
    }

    /** "d (0 .. FAR)": 0 and FAR are tried, what lies beyond is not. */
    private static void fitsFromNoughtToFar() {
        PhaseCells c = withResidues(SAME, new int[] {1996, 1996, 1996});
        c.sets(3, 100);
        due("0 is 4 from 1996", c.cell(0, 0, 0, 0), 0);
        c.sets(0, 3);
        due("not with NOISE 3", c.mark(0, 0, 0), 5);
        c = withResidues(SAME, new int[] {104, 104, 104});
        c.sets(3, 100);
        due("100 is 4 from 104", c.cell(0, 0, 0, 0), 100);
        c.sets(0, 3);
        due("100 is not within 3", c.mark(0, 0, 0), 5);
        c.sets(3, 101);
        due("101 is", c.cell(0, 0, 0, 0), 101);
        c = withResidues(SAME, new int[] {1999, 1999, 1999});
        c.sets(0, 0);
        due("FAR 5000: 1999 and 3999", c.mark(0, 0, 0), 3);
        c.sets(3, 3998);
        due("FAR 3998: 1999 alone", c.cell(0, 0, 0, 0), 1999);
        c.sets(3, 3999);
        due("FAR 3999: two", c.mark(0, 0, 0), 3);
        c = withResidues(new int[] {1999, 2000, 1997}, new int[] {4, 1999, 14});
        c.sets(3, 9999);
        c.sets(0, 0);
        due("9999 itself", c.cell(0, 0, 0, 0), 9999);
        c.sets(3, 9998);
        due("9999 is beyond FAR", c.mark(0, 0, 0) == 0 ? 1 : 0, 0);
    }

    /** Like waves: 30 and 130 are alike in misfit, and as far apart as NOISE 50 bears. */
    private static void bestOfLikeOnesIsTheLeast() {
        PhaseCells c = withResidues(new int[] {100, 100, 100}, new int[] {30, 30, 30});
        c.sets(0, 50);
        c.sets(3, 130);
        due("measured", c.mark(0, 0, 0), 0);
        due("the least of two", c.cell(0, 0, 0, 0), 30);
        c.sets(3, 131);
        due("131 is 101 further", c.mark(0, 0, 0), 3);
        c.sets(0, 0);
        c.sets(3, 129);
        due("one with NOISE 0", c.cell(0, 0, 0, 0), 30);
        c.sets(3, 130);
        due("two with NOISE 0", c.mark(0, 0, 0), 3);
    }

    /** The sum of squares: neither the first that fits, nor the middle, nor the one of the least sum. */
    private static void bestIsOfLeastMisfit() {
        int[][] residues = {{100, 100, 106}, {100, 106, 100}, {106, 100, 100}, {100, 106, 106}, {0, 0, 6}, {0, 3, 7}};
        int[] want = {102, 102, 102, 104, 2, 3};
        for (int i = 0; i < want.length; i++) {
            PhaseCells c = withResidues(SAME, residues[i]);
            c.sets(3, 1000);
            c.sets(0, 10);
            due("best of " + Arrays.toString(residues[i]), c.cell(0, 0, 0, 0), want[i]);
        }
        // round the end of the wave: 1998 and 4 lie 6 apart, but below 0 nothing is tried
        PhaseCells c = withResidues(SAME, new int[] {1998, 1998, 4});
        c.sets(3, 1000);
        c.sets(0, 10);
        due("best round the end", c.cell(0, 0, 0, 0), 0);
        c.sets(3, 2500);
        due("2000 is as good as 0, and doubtful", c.mark(0, 0, 0), 3);
    }

    /** Waves of 97, 99, 101 with NOISE 50: all from 0 to FAR fit, so the ends decide. */
    private static void measuredWithinTwiceNoise() {
        due("100 above the best", markByEcho(0, 100), 0);
        due("101 above the best", markByEcho(0, 101), 3);
        due("100 below the best", markByEcho(100, 100), 0);
        due("101 below the best", markByEcho(101, 101), 3);
        due("100 above, 1 below", markByEcho(1, 101), 0);
        due("101 above, 1 below", markByEcho(1, 102), 3);
        due("100 above, 100 below", markByEcho(100, 200), 0);
        due("101 above, 100 below", markByEcho(100, 201), 3);
        due("100 above, 101 below", markByEcho(101, 201), 3);
    }

    private static int markByEcho(int d, int far) {
        int[] waves = {97, 99, 101};
        PhaseCells c = withResidues(waves, new int[] {d % 97, d % 99, d % 101});
        c.sets(0, 50);
        c.sets(3, far);
        int mark = c.mark(0, 0, 0);
        due("distance of " + d, c.cell(0, 0, 0, 0), mark == 0 ? d : NO);
        return mark;
    }

    /** Waves of 100, 100, 101, residues 5, 5, 4: 105 is best, 5 (misfit 1) lies below it. */
    private static void doubtfulEitherWay() {
        PhaseCells c = withResidues(new int[] {100, 100, 101}, new int[] {5, 5, 4});
        c.sets(0, 1);
        c.sets(3, 103);
        due("5 alone", c.cell(0, 0, 0, 0), 5);
        c.sets(3, 104);
        due("104 fits, too", c.mark(0, 0, 0), 3);
        c.sets(3, 105);
        due("105 is best, 5 is further", c.mark(0, 0, 0), 3);
        due("no distance", c.cell(0, 0, 0, 0), NO);
        due("nor near", c.cell(0, 0, 0, 1), NO);
        due("nor beyond", c.cell(0, 0, 0, 2), NO);
        due("nor wraps", c.wraps(0, 0, 0, 0), NO);
    }

    /** Two rates say 300, the third 900: one pair alone tells NEAR and BEYOND. */
    private static void mixedByEachPair() {
        for (int apart = 0; apart < 3; apart++) {
            int[] residues = {300, 300, 300};
            residues[apart] = 900;
            PhaseCells c = withResidues(SAME, residues);
            c.sets(3, 2299);
            due("mixed", c.mark(0, 0, 0), 4);
            due("near", c.cell(0, 0, 0, 1), 300);
            due("beyond", c.cell(0, 0, 0, 2), 300);
            due("no distance", c.cell(0, 0, 0, 0), NO);
            c.sets(3, 300);
            due("at FAR", c.cell(0, 0, 0, 1), 300);
            c.sets(0, 0);
            c.sets(3, 299);
            due("beyond FAR", c.mark(0, 0, 0), 5);
        }
    }

    /**
     * Waves 11, 13, 17, residues 0, 0, 1, NOISE 0: rates 0 and 1 say 0, 1 and 2 say 52, 0 and 2 say 154,
     * all together 715. In each order of the rates.
     */
    private static void mixedByAllPairs() {
        int[][] orders = {{0, 1, 2}, {0, 2, 1}, {1, 0, 2}, {1, 2, 0}, {2, 0, 1}, {2, 1, 0}};
        int[] waves = {11, 13, 17}, residues = {0, 0, 1};
        for (int[] o : orders) {
            PhaseCells c = withResidues(new int[] {waves[o[0]], waves[o[1]], waves[o[2]]},
                new int[] {residues[o[0]], residues[o[1]], residues[o[2]]});
            c.sets(0, 0);
            c.sets(3, 714);
            due("mixed", c.mark(0, 0, 0), 4);
            due("near", c.cell(0, 0, 0, 1), 0);
            due("beyond", c.cell(0, 0, 0, 2), 154);
            c.sets(3, 154);
            due("beyond at FAR", c.cell(0, 0, 0, 2), 154);
            c.sets(3, 153);
            due("154 is beyond FAR", c.cell(0, 0, 0, 2), 52);
            due("near yet", c.cell(0, 0, 0, 1), 0);
            c.sets(3, 715);
            due("all together", c.cell(0, 0, 0, 0), 715);
            due("not mixed", c.cell(0, 0, 0, 1), NO);
        }
    }

    /** Residues 50 and 51 of two rates: 50 and 51 have the misfit 1, the least is 50; in any order. */
    private static void bestOfAPairIsTheLeast() {
        int[][] residues = {{50, 51, 900}, {51, 50, 900}, {50, 900, 51}, {51, 900, 50}, {900, 50, 51}, {900, 51, 50}};
        for (int[] r : residues) {
            PhaseCells c = withResidues(SAME, r);
            due("near of " + Arrays.toString(r), c.cell(0, 0, 0, 1), 50);
            due("beyond of " + Arrays.toString(r), c.cell(0, 0, 0, 2), 50);
        }
        // a better one further on: 100 and 101, residues 5 and 4, NOISE 2: 5 has misfit 1, 105 has 0
        PhaseCells c = withResidues(new int[] {100, 101, 2000}, new int[] {5, 4, 1900});
        c.sets(0, 2);
        c.sets(3, 104);
        // 104 has misfit 1, too; 4 and 5 come first
        due("the least of four", c.cell(0, 0, 0, 1), 4);
        c.sets(3, 105);
        due("a better one", c.cell(0, 0, 0, 1), 105);
    }

    private static void noneFitsTwo() {
        PhaseCells c = withResidues(SAME, new int[] {100, 700, 1300});
        due("5", c.mark(0, 0, 0), 5);
        for (int what = 0; what < 3; what++) {
            due("nothing of it", c.cell(0, 0, 0, what), NO);
        }
        due("filled of it", c.cell(0, 0, 0, 3), NONE);
        due("no wraps", c.wraps(0, 0, 0, 0), NO);
        // 100 and 109 are just too far apart for NOISE 4, for 4 + 4 is 8
        c = withResidues(SAME, new int[] {100, 109, 1300});
        due("just too far", c.mark(0, 0, 0), 5);
        c = withResidues(SAME, new int[] {100, 108, 1300});
        due("just not", c.mark(0, 0, 0), 4);
        due("between", c.cell(0, 0, 0, 1), 104);
    }

    private static void wrapsAtWholeWaves() {
        int[] d = {0, 499, 500, 501, 699, 700, 1099, 1100, 4999, 5000};
        int[][] want = {{0, 0, 0}, {0, 0, 0}, {1, 0, 0}, {1, 0, 0}, {1, 0, 0}, {1, 1, 0}, {2, 1, 0}, {2, 1, 1},
            {9, 7, 4}, {10, 7, 4}};
        for (int i = 0; i < d.length; i++) {
            PhaseCells c = new PhaseCells();
            c.echo(1, 0, 0, d[i], 1000);
            due("distance", c.cell(1, 0, 0, 0), d[i]);
            for (int k = 0; k < 3; k++) {
                due("wraps of " + d[i] + " by rate " + k, c.wraps(1, 0, 0, k), want[i][k]);
            }
        }
        PhaseCells c = withResidues(new int[] {10, 1999, 2000}, new int[] {9, 4, 1999});
        c.sets(3, 9999);
        c.sets(0, 0);
        due("wraps of 9999 by 10", c.wraps(0, 0, 0, 0), 999);
        due("wraps of 9999 by 1999", c.wraps(0, 0, 0, 1), 5);
        due("wraps of 9999 by 2000", c.wraps(0, 0, 0, 2), 4);
        c.shines(0, 0, 0, 4000);
        due("not of a bright one", c.wraps(0, 0, 0, 0), NO);
    }

    /** What cell() answers of each MARK: a number, NONE or NO. */
    private static void cellByMark() {
        PhaseCells c = allKinds();
        int[][] want = {{1000, NO, NO, NO}, {NO, NO, NO, NONE}, {NO, NO, NO, NONE}, {NO, NO, NO, NONE},
            {NO, 300, 300, NONE}, {NO, NO, NO, NONE}};
        int no = 0;
        for (int m = 0; m < 6; m++) {
            int x = m % 4, y = 2 * (m / 4);
            due("mark " + m, c.mark(0, x, y), m);
            for (int what = 0; what < 4; what++) {
                due("cell of mark " + m + ", " + what, c.cell(0, x, y, what), want[m][what]);
                no += want[m][what] == NO ? 1 : 0;
            }
        }
        due("all NO counted", c.refused(1), no);
    }

    /**
     * A cell of each MARK in a grid of 4 by 3, rows 0 and 2: all fit 100 and 2100 by waves of 2000, 2000, 1000,
     * and FAR is 2900. EDGE is 1, so that none is bright enough to fill another.
     */
    private static PhaseCells allKinds() {
        PhaseCells c = new PhaseCells();
        c.grid(4, 3);
        c.sets(4, 1);
        c.sets(3, 2900);
        c.wave(0, 2000);
        c.wave(1, 2000);
        c.wave(2, 1000);
        c.echo(0, 0, 0, 1000, 900);
        c.shines(0, 1, 0, 4000);
        c.echo(0, 3, 0, 100, 700);
        layEchoes(c, 0, 2, 300, 300, 800);
        layEchoes(c, 1, 2, 100, 500, 900);
        return c;
    }

    private static void marksOfAllKinds() {
        PhaseCells c = allKinds();
        int[] want = {1, 1, 7, 1, 1, 1};
        for (int m = 0; m < 6; m++) {
            due("how many of " + m, c.marks(0, m), want[m]);
            due("of the other exposure", c.marks(1, m), m == 2 ? 12 : 0);
        }
        long h = 1689;
        for (int what = 0; what < 5; what++) {
            h = 31 * h + c.refused(what);
        }
        for (int what = 0; what < 11; what++) {
            h = 31 * h + c.told(what);
        }
        for (int i = 0; i < 24; i++) {
            int e = i / 12, y = i / 4 % 3, x = i % 4;
            for (int j = 0; j < 12; j++) {
                h = 31 * h + c.raw(e, x, y, j / 4, j % 4);
            }
            int m = c.mark(e, x, y);
            h = 31 * h + m;
            if (m == 4) {
                h = 31 * (31 * h + 300) + 300;
            }
            h = 31 * h + (m == 0 ? 1000 : NONE);
        }
        due("digest of all kinds", c.digest(), 31 * (31 * h + Double.doubleToLongBits(1000.0)));
    }

    /** From one end to the other, either way: 9999 is the most. */
    private static void motionAtTheEnds() {
        for (int e = 0; e < 2; e++) {
            PhaseCells c = new PhaseCells();
            c.grid(4, 4);
            c.sets(3, 9999);
            c.echo(e, 3, 3, 0, 1000);
            due("one alone", c.motion(3, 3), NO);
            c.echo(1 - e, 3, 3, 9999, 1000);
            due("both", c.motion(3, 3), e == 0 ? 9999 : -9999);
            due("moved", c.moved(), 1);
            c.sets(5, 500);
            due("moved by more than 500", c.moved(), 1);
            c.shines(e, 3, 3, 4000);
            due("bright in one", c.motion(3, 3), NO);
            due("none moved", c.moved(), 0);
        }
    }

    /** "more than STEP, either way". */
    private static void movedByMoreThanStep() {
        int[] steps = {0, 1, 10, 499, 500};
        for (int step : steps) {
            for (int e = 0; e < 2; e++) {
                PhaseCells c = new PhaseCells();
                c.sets(5, step);
                c.echo(e, 0, 0, 1000, 1000);
                c.echo(1 - e, 0, 0, 1000 + step, 1000);
                due("motion", c.motion(0, 0), e == 0 ? step : -step);
                due("not by STEP " + step, c.moved(), 0);
                c.clears(1 - e, 0, 0);
                c.echo(1 - e, 0, 0, 1001 + step, 1000);
                due("motion of one more", c.motion(0, 0), e == 0 ? step + 1 : -step - 1);
                due("by more than STEP " + step, c.moved(), 1);
            }
        }
        PhaseCells c = new PhaseCells();
        c.grid(4, 4);
        for (int i = 0; i < 16; i++) {
            c.echo(0, i % 4, i / 4, 1000, 800);
            c.echo(1, i % 4, i / 4, 1011, 800);
            due("moved", c.moved(), i + 1);
        }
    }

    private static void meanAtTheEnds() {
        PhaseCells c = new PhaseCells();
        c.grid(4, 4);
        c.sets(3, 9999);
        due("of none", c.mean(0), 0);
        for (int i = 0; i < 16; i++) {
            c.echo(0, i % 4, i / 4, 9999, 1000);
        }
        due("the greatest", c.mean(0), Double.doubleToLongBits(9999.0));
        for (int i = 0; i < 15; i++) {
            c.clears(0, i % 4, i / 4);
            c.echo(0, i % 4, i / 4, 0, 1000);
        }
        due("a sixteenth", c.mean(0), Double.doubleToLongBits(9999.0 / 16));
        c.clears(0, 3, 3);
        c.echo(0, 3, 3, 1, 1000);
        due("a sixteenth of 1", c.mean(0), Double.doubleToLongBits(0.0625));
        c.clears(0, 0, 0);
        due("a fifteenth of 1", c.mean(0), Double.doubleToLongBits(1.0 / 15));
        for (int i = 1; i < 13; i++) {
            c.clears(0, i % 4, i / 4);
        }
        due("a third", c.mean(0), Double.doubleToLongBits(1.0 / 3));
        c.clears(0, 3, 3);
        due("0 of some", c.mean(0), 0);
        for (int d = 1; d <= 16; d *= 2) {
            PhaseCells one = new PhaseCells();
            one.echo(1, 0, 0, d, 1000);
            due("a power of two", one.mean(1), Double.doubleToLongBits(d));
        }
    }
}
