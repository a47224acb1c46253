/** Which refusal comes first, what it counts, and that it changes nothing else. */
public final class RefusalsTest extends Checks {
    private RefusalsTest() {
    }

    public static void main(String[] args) {
        badComesBeforeNo();
        badComesBeforeFull();
        noneIsNoRefusal();
        noChangesOnlyHowOften();
        fullChangesOnlyHowOften();
        backOfNoneChangesOnlyHowOften();
        eachKindHasItsOwnCount();
        gettersCountToo();
        twoWrongNumbersAreOneRefusal();
        nothingCountsByDoes();
        countsStayWhenGoingBack();
        refusedOfItself();
        ends("all refusals are as due");
    }

    private static void counts(String what, PhaseCells c, int bad, int no, int full) {
        due(what + ", BAD", c.refused(0), bad);
        due(what + ", NO", c.refused(1), no);
        due(what + ", FULL", c.refused(2), full);
    }

    /** "the first of: BAD .. NO": the cell is dark, so each call would be NO if its numbers were as told. */
    private static void badComesBeforeNo() {
        PhaseCells c = new PhaseCells();
        due("wraps", c.wraps(0, 0, 0, 3), BAD);
        due("wraps of no cell", c.wraps(0, 3, 0, 0), BAD);
        due("away", c.away(0, 0, 0, 0, 10000), BAD);
        due("away of no rate", c.away(0, 0, 0, -1, 0), BAD);
        due("cell", c.cell(0, 0, 0, 4), BAD);
        due("cell of no cell", c.cell(0, 0, -1, 0), BAD);
        due("motion", c.motion(0, 3), BAD);
        counts("BAD before NO", c, 7, 0, 0);
        due("wraps in range", c.wraps(0, 0, 0, 2), NO);
        due("away in range", c.away(0, 0, 0, 0, 9999), NO);
        due("cell in range", c.cell(0, 0, 0, 0), NO);
        due("motion in range", c.motion(0, 2), NO);
        counts("NO then", c, 7, 4, 0);
    }

    private static void badComesBeforeFull() {
        PhaseCells c = new PhaseCells();
        types(c, " ".repeat(150));
        due("128 at a full text", c.type(128), BAD);
        due("-1 at a full text", c.type(-1), BAD);
        counts("BAD before FULL", c, 2, 0, 0);
        due("127 at a full text", c.type(127), FULL);
        due("0 at a full text", c.type(0), FULL);
        counts("FULL then", c, 2, 0, 2);
    }

    /** NONE is an answer, as is a negative one of does(). */
    private static void noneIsNoRefusal() {
        PhaseCells c = new PhaseCells();
        due("residue of S 0", c.of(0, 0, 0, 0, 3), NONE);
        due("filled from none", c.cell(0, 0, 0, 3), NONE);
        due("mean of none", c.mean(1), 0);
        due("moved of none", c.moved(), 0);
        due("an empty text cleared", c.clear(), 0);
        counts("NONE", c, 0, 0, 0);
    }

    private static PhaseCells laid() {
        PhaseCells c = new PhaseCells();
        c.echo(0, 0, 0, 1234, 700);
        c.echo(1, 1, 1, 1234, 700);
        c.wave(2, 1101);
        types(c, "v0 99;");
        return c;
    }

    private static void sameThrough(String what, PhaseCells c, PhaseCells like) {
        due(what + " left all as it was", c.digest(), like.digest());
        due(what + " left the text", c.does(), like.does());
        for (int i = 0; i < 6; i++) {
            due(what + " left the states", c.back(), like.back());
            due(what + " left each state", c.digest(), like.digest());
        }
    }

    /** Each call that can answer NO has changed what any other has. */
    private static void noChangesOnlyHowOften() {
        String[] names = {"wraps", "away", "cell", "cell", "cell", "cell", "cell", "motion"};
        int[][] numbers = {{0, 2, 2, 0}, {0, 2, 2, 0, 5}, {0, 2, 2, 0}, {0, 0, 0, 1}, {0, 2, 2, 1}, {0, 0, 0, 2},
            {0, 0, 0, 3}, {0, 0}};
        for (int i = 0; i < names.length; i++) {
            PhaseCells c = laid(), like = laid();
            due(names[i], Face.call(c, names[i], numbers[i]), NO);
            counts(names[i], c, 0, 1, 0);
            due("another", like.motion(2, 2), NO);
            sameThrough(names[i], c, like);
        }
    }

    private static void fullChangesOnlyHowOften() {
        PhaseCells c = new PhaseCells();
        types(c, "v0 99;" + " ".repeat(143));
        due("the last byte", c.type('x'), 150);
        due("FULL", c.type(';'), FULL);
        due("bytes", c.refused(3), 150);
        due("states", c.refused(4), 0);
        due("the last byte is as it was", c.does(), -10 - 149);
        due("clear", c.clear(), 150);
        counts("FULL once", c, 0, 0, 1);
    }

    private static void backOfNoneChangesOnlyHowOften() {
        PhaseCells c = new PhaseCells();
        due("back of none", c.back(), NO);
        due("back of none again", c.back(), NO);
        counts("two NO", c, 0, 2, 0);
        due("no state", c.refused(4), 0);
        c.wave(0, 100);
        due("one to go back to", c.back(), 0);
        due("all as at first", c.told(2), 500);
        due("back of none then", c.back(), NO);
        due("still as at first", c.told(2), 500);
        counts("three NO", c, 0, 3, 0);
    }

    private static void eachKindHasItsOwnCount() {
        PhaseCells c = new PhaseCells();
        c.grid(0, 0);
        counts("after BAD", c, 1, 0, 0);
        c.back();
        counts("after NO", c, 1, 1, 0);
        types(c, " ".repeat(151));
        counts("after FULL", c, 1, 1, 1);
        c.clear();
        counts("clear clears no count", c, 1, 1, 1);
    }

    /** "any call, getters, too". */
    private static void gettersCountToo() {
        String[] names = {"raw", "of", "bits", "wraps", "away", "mark", "cell", "glow", "motion", "marks", "mean",
            "told", "refused"};
        int[] counts = {5, 5, 5, 4, 5, 3, 4, 3, 2, 2, 1, 1, 1};
        PhaseCells c = new PhaseCells();
        for (int i = 0; i < names.length; i++) {
            int[] n = new int[counts[i]];
            n[n.length - 1] = -1;
            due(names[i], Face.call(c, names[i], n), BAD);
            due(names[i] + " counts", c.refused(0), i + 1);
        }
    }

    private static void twoWrongNumbersAreOneRefusal() {
        PhaseCells c = new PhaseCells();
        c.grid(9, 9);
        c.sample(9, 9, 9, 9, 9, -9);
        c.cell(-1, -1, -1, -1);
        counts("three calls", c, 3, 0, 0);
    }

    /** "By does() nothing counts": neither a FAULT nor an ORDER that ends all, and done ones not either. */
    private static void nothingCountsByDoes() {
        PhaseCells c = new PhaseCells();
        due("a fault", does(c, "x"), -10);
        due("too early", does(c, ""), -10);
        due("an order refused", does(c, "g9 9;"), -1000);
        due("an order refused behind others", does(c, "g1 1;c0 1 1;"), -1001);
        due("done", does(c, "g1 1;"), 1);
        counts("does", c, 0, 0, 0);
        due("one state", c.refused(4), 1);
        // "by type() as by any call"
        c.type(128);
        types(c, " ".repeat(146));
        counts("type", c, 1, 0, 1);
    }

    private static void countsStayWhenGoingBack() {
        PhaseCells c = new PhaseCells();
        c.wave(0, 100);
        c.wave(0, 1);
        c.wraps(0, 0, 0, 0);
        types(c, " ".repeat(151));
        due("back", c.back(), 0);
        counts("after back", c, 1, 1, 1);
        due("the text stays", c.refused(3), 150);
    }

    private static void refusedOfItself() {
        PhaseCells c = new PhaseCells();
        due("refused(5)", c.refused(5), BAD);
        due("it counts itself", c.refused(0), 1);
        due("refused(-1)", c.refused(-1), BAD);
        due("it counts itself again", c.refused(0), 2);
    }
}
