import java.util.Set;

/** STATES: which call leaves one, what comes back by it, how many are kept. */
public final class StatesTest extends Checks {
    private StatesTest() {
    }

    public static void main(String[] args) {
        leavesOneThoughNothingBecomesOther();
        othersLeaveNone();
        fiveAtMost();
        olderOnesAreLostFirst();
        backIsNoCallToldS();
        newOnesAfterBack();
        statesAreWhole();
        textAndCountsStay();
        gridsComeBackWithTheirCells();
        whatIsReckonedComesBack();
        fiveHundredAndTwelveCalls();
        ends("all states are as due");
    }

    /** "also if nothing becomes other by it": every call told S, with what is already so. */
    private static void leavesOneThoughNothingBecomesOther() {
        String[] names = {"grid", "wave", "sets", "sample", "shines", "clears", "does"};
        int[][] numbers = {{3, 3}, {1, 700}, {4, 50}, {1, 2, 2, 2, 3, 0}, {0, 0, 0, 1}, {1, 1, 1}, {}};
        for (int i = 0; i < names.length; i++) {
            PhaseCells c = new PhaseCells();
            types(c, "c0 1 1;");
            if (names[i].equals("shines")) {
                c.shines(0, 0, 0, 4095);
                c.back();
                c.shines(0, 0, 0, 4095);
            }
            int had = c.refused(4);
            long digest = c.digest();
            Face.call(c, names[i], numbers[i]);
            due(names[i] + " leaves one", c.refused(4), had + 1);
            due("back of " + names[i], c.back(), had);
            due("as before " + names[i], c.digest(), digest);
        }
    }

    private static void othersLeaveNone() {
        PhaseCells c = new PhaseCells();
        c.echo(0, 0, 0, 1234, 800);
        for (String name : Face.NAMES) {
            if (Set.of("grid", "wave", "sets", "sample", "echo", "shines", "clears", "does", "back").contains(name)) {
                continue;
            }
            Face.call(c, name, new int[6]);
            due(name + " leaves none", c.refused(4), 1);
        }
    }

    private static void fiveAtMost() {
        PhaseCells c = new PhaseCells();
        for (int i = 1; i <= 12; i++) {
            c.sets(5, i);
            due("states after " + i, c.refused(4), Math.min(i, 5));
        }
        for (int i = 4; i >= 0; i--) {
            due("how many can be yet", c.back(), i);
            due("how many are told", c.refused(4), i);
        }
        due("none", c.back(), NO);
        due("the oldest that was kept", c.told(10), 7);
    }

    private static void olderOnesAreLostFirst() {
        for (int calls = 1; calls <= 8; calls++) {
            PhaseCells c = new PhaseCells();
            for (int i = 1; i <= calls; i++) {
                c.wave(0, 100 + i);
            }
            for (int i = calls - 1; i >= Math.max(0, calls - 5); i--) {
                c.back();
                due("back to what was after " + i, c.told(2), i == 0 ? 500 : 100 + i);
            }
            due("no more of " + calls, c.back(), NO);
        }
    }

    /** What was gone back from can not be come to again. */
    private static void backIsNoCallToldS() {
        PhaseCells c = new PhaseCells();
        c.wave(0, 100);
        c.wave(0, 200);
        due("back", c.back(), 1);
        due("no state by it", c.refused(4), 1);
        due("back on", c.back(), 0);
        due("as at first", c.told(2), 500);
        due("none left", c.back(), NO);
    }

    private static void newOnesAfterBack() {
        PhaseCells c = new PhaseCells();
        for (int i = 1; i <= 6; i++) {
            c.wave(0, 100 * i);
        }
        c.back();
        c.back();
        due("four hundred", c.told(2), 400);
        c.wave(0, 77);
        c.wave(0, 78);
        c.wave(0, 79);
        due("five again", c.refused(4), 5);
        int[] want = {78, 77, 400, 300, 200};
        for (int i = 0; i < 5; i++) {
            due("back", c.back(), 4 - i);
            due("back to", c.told(2), want[i]);
        }
        due("the rest is lost", c.back(), NO);
    }

    /** All of a state comes back at once, whatever has changed since in one text. */
    private static void statesAreWhole() {
        PhaseCells c = new PhaseCells();
        lay(c, 1, 2, 1, 1, 2, 3, 4);
        c.echo(0, 0, 0, 4000, 999);
        for (int k = 0; k < 6; k++) {
            c.sets(k, 100 - (k == 0 ? 60 : 0));
        }
        types(c, "g4 4;v0 10;v1 11;v2 12;s0 1;s1 2;s2 3;s3 104;s4 5;s5 6;l1 3 3 7;e0 0 0 5 5;");
        long digest = c.digest();
        int states = c.refused(4);
        due("five", states, 5);
        due("done", c.does(), 12);
        due("back", c.back(), 4);
        due("another digest, for a state less", c.digest() == digest ? 1 : 0, 0);
        int[] want = {3, 3, 500, 700, 1100, 40, 100, 100, 100, 100, 100};
        for (int i = 0; i < want.length; i++) {
            due("told " + i, c.told(i), want[i]);
        }
        for (int i = 0; i < 12; i++) {
            due("sample " + i, c.raw(1, 2, 1, i / 4, i % 4), i % 4 + 1);
        }
        due("the echo", c.of(0, 0, 0, 0, 0), 999);
    }

    /** "(all but THE TEXT and how often refused)". */
    private static void textAndCountsStay() {
        PhaseCells c = new PhaseCells();
        types(c, "ab");
        c.wave(0, 100);
        types(c, "cd");
        c.wave(0, 9);
        due("back", c.back(), 0);
        due("the text stays as it is", c.refused(3), 4);
        due("how often stays as it is", c.refused(0), 1);
        c.wave(0, 100);
        c.clear();
        due("back again", c.back(), 0);
        due("an empty text stays", c.refused(3), 0);
    }

    private static void gridsComeBackWithTheirCells() {
        PhaseCells c = new PhaseCells();
        c.grid(4, 4);
        c.shines(1, 3, 3, 11);
        due("to the least", c.grid(1, 1), 16);
        due("gone", c.raw(1, 3, 3, 0, 0), BAD);
        due("back to the greatest", c.back(), 2);
        due("here", c.raw(1, 3, 3, 2, 3), 11);
        due("back ahead of shines", c.back(), 1);
        due("dark", c.raw(1, 3, 3, 2, 3), 0);
        due("back to the first grid", c.back(), 0);
        due("no such cell", c.raw(1, 3, 3, 2, 3), BAD);
        due("nine cells", c.marks(0, 2), 9);
    }

    /** Marks, distances, filled and moved are those of what has come back. */
    private static void whatIsReckonedComesBack() {
        PhaseCells c = new PhaseCells();
        c.sets(4, 500);
        c.echo(0, 0, 0, 1000, 400);
        c.echo(1, 0, 0, 1100, 400);
        c.echo(0, 0, 1, 10, 10);
        String[] names = {"mark", "cell", "cell", "motion", "moved", "mean", "marks", "glow", "wraps"};
        int[][] numbers = {{0, 0, 0}, {0, 0, 0, 0}, {0, 0, 1, 3}, {0, 0}, {}, {0}, {0, 0}, {0, 0, 0}, {0, 0, 0, 0}};
        int[][] changes = {{2, 2}, {0, 497}, {0, 0, 0}, {0, 0, 0, 4000}, {0, 0, 0, 77, 300}, {3, 500}};
        String[] changers = {"grid", "wave", "clears", "shines", "echo", "sets"};
        for (int j = 0; j < changers.length; j++) {
            long[] before = new long[names.length];
            for (int i = 0; i < names.length; i++) {
                before[i] = Face.call(c, names[i], numbers[i]);
            }
            Face.call(c, changers[j], changes[j]);
            due(changers[j] + " is seen", c.mean(0) == before[5] ? 1 : 0, 0);
            c.back();
            for (int i = 0; i < names.length; i++) {
                due(names[i] + " after " + changers[j], Face.call(c, names[i], numbers[i]), before[i]);
            }
        }
    }

    private static void fiveHundredAndTwelveCalls() {
        PhaseCells c = new PhaseCells();
        for (int i = 0; i < 510; i++) {
            due("wave again and again", c.wave(0, 10 + i), i == 0 ? 500 : 9 + i);
        }
        due("back", c.back(), 4);
        due("the last call", c.told(2), 518);
    }
}
