import java.util.Arrays;

/** What the tests that are worked out by hand share. */
abstract class Checks {
    static final int NONE = -10001, BAD = -10002, NO = -10003, FULL = -10004;
    private static int wrong = 0;

    static void due(String what, long got, long want) {
        if (got != want) {
            wrong++;
            System.out.println(what + " answered " + got + ", due is " + want);
        }
    }

    /** Tells how it went; with exit code 1 if an answer was not as due. */
    static void ends(String good) {
        System.out.println(wrong == 0 ? good : wrong + " answers are not as due");
        if (wrong != 0) {
            System.exit(1);
        }
    }

    static void refusesBad(PhaseCells c, String name, int... n) {
        int before = c.refused(0), states = c.refused(4);
        due(name + " of wrong numbers " + Arrays.toString(n), Face.call(c, name, n), BAD);
        due(name + " counted as refused", c.refused(0), before + 1);
        due(name + " refused left no state", c.refused(4), states);
    }

    static int types(PhaseCells c, String text) {
        int length = c.refused(3);
        for (int i = 0; i < text.length(); i++) {
            length = c.type(text.charAt(i));
        }
        return length;
    }

    static int does(PhaseCells c, String text) {
        c.clear();
        types(c, text);
        return c.does();
    }

    /** All rates of a cell get the same four samples. */
    static void lay(PhaseCells c, int e, int x, int y, int... four) {
        for (int k = 0; k < 3; k++) {
            layRate(c, e, x, y, k, four);
        }
    }

    static void layRate(PhaseCells c, int e, int x, int y, int k, int... four) {
        for (int i = 0; i < 4; i++) {
            c.sample(e, x, y, k, i, four[i]);
        }
    }

    /** A phase of residue * 4 / wave, laid in the samples of one rate of cell 0, 0; S is near 2000. */
    static void layResidue(PhaseCells c, int k, int residue, int wave) {
        int fours = 4 * residue;
        int quarter = fours / wave;
        int part = fours % wave;
        int x = new int[] {wave - part, -part, part - wave, part}[quarter] * (2000 / wave);
        int y = new int[] {part, wave - part, -part, part - wave}[quarter] * (2000 / wave);
        layRate(c, 0, 0, 0, k, Math.max(x, 0), Math.max(y, 0), Math.max(-x, 0), Math.max(-y, 0));
    }

    /** Waves and residues of all rates of cell 0, 0 of exposure 0. */
    static PhaseCells withResidues(int[] waves, int[] residues) {
        PhaseCells c = new PhaseCells();
        for (int k = 0; k < 3; k++) {
            c.wave(k, waves[k]);
            layResidue(c, k, residues[k], waves[k]);
            due("residue laid " + Arrays.toString(waves) + Arrays.toString(residues), c.of(0, 0, 0, k, 3), residues[k]);
        }
        return c;
    }

    /** Each rate of a cell of exposure 0 as an echo of its own distance would leave it. */
    static void layEchoes(PhaseCells c, int x, int y, int... d) {
        for (int k = 0; k < 3; k++) {
            PhaseCells help = new PhaseCells();
            help.wave(k, c.told(2 + k));
            help.echo(0, 0, 0, d[k], 600);
            for (int i = 0; i < 4; i++) {
                c.sample(0, x, y, k, i, help.raw(0, 0, 0, k, i));
            }
        }
    }
}
