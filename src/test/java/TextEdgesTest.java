/** THE TEXT: which byte can stand where, where it ends too early, what is done and what is not. */
public final class TextEdgesTest extends Checks {
    private static final String FIGURES = "0123456789";

    private TextEdgesTest() {
    }

    public static void main(String[] args) {
        whichByteCanStand();
        howManyNumbers();
        howManyFigures();
        blanksAnywhereButInNumbers();
        endsTooEarly();
        earlierTextsAreForgotten();
        fullTexts();
        readWholeFirst();
        ordersJudgedInTurn();
        nothingIsDone();
        oneStateForAll();
        textStays();
        typeAndClearAtTheEnds();
        ends("all edges of the text are as due");
    }

    /** Behind each beginning every byte of 128 is tried; those that can stand are told with it. */
    private static void whichByteCanStand() {
        String[] beginnings = {"", " ", "g", "g ", "g1", "g1234", "g12 ", "g1 2", "g1 2345", "g1 2 ", "g1 1;", "g1 1; ",
            "e1 2 3 4", "e1 2 3 4 ", "e1 2 3 4 5", "e1 2 3 4 5 ", "l1 2 3", "l1 2 3 4 ", "c1 2", "c1 2 ", "c1 2 3",
            "c1 2 3 ", "v", "s", "e", "l", "c", "v1 2 ", "s1 2 "};
        String[] stand = {" gvselc", " gvselc", " " + FIGURES, " " + FIGURES, " " + FIGURES, " ", " " + FIGURES,
            " ;" + FIGURES, " ;", " ;", " gvselc", " gvselc",
            " " + FIGURES, " " + FIGURES, " ;" + FIGURES, " ;", " " + FIGURES, " ;", " " + FIGURES, " " + FIGURES,
            " ;" + FIGURES,
            " ;", " " + FIGURES, " " + FIGURES, " " + FIGURES, " " + FIGURES, " " + FIGURES, " ;", " ;"};
        for (int i = 0; i < beginnings.length; i++) {
            for (char c = 0; c < 128; c++) {
                String text = beginnings[i] + c;
                // a # can stand nowhere: the first fault is at c, or at the # behind it
                int fault = stand[i].indexOf(c) >= 0 ? text.length() : text.length() - 1;
                due("byte " + (int) c + " behind '" + beginnings[i] + "'", does(new PhaseCells(), text + "#"), -10 - fault);
            }
        }
    }

    private static void howManyNumbers() {
        String letters = "gvselc";
        int[] counts = {2, 2, 2, 5, 4, 3};
        for (int i = 0; i < 6; i++) {
            StringBuilder text = new StringBuilder().append(letters.charAt(i));
            for (int n = 0; n < counts[i]; n++) {
                due("too few: " + text, does(new PhaseCells(), text + ";"), -10 - text.length());
                text.append(" 1");
            }
            int done = does(new PhaseCells(), text + ";");
            boolean inRange = "gselc".indexOf(letters.charAt(i)) >= 0;
            due("enough: " + text, done, inRange ? 1 : -1000);
            due("too many: " + text, does(new PhaseCells(), text + " 1;"), -10 - (text.length() + 1));
        }
    }

    /** "Numbers have 1 to 4 figures"; the fifth is the fault, even of noughts. */
    private static void howManyFigures() {
        PhaseCells c = new PhaseCells();
        due("one figure", does(c, "s5 7;"), 1);
        due("one figure told", c.told(10), 7);
        due("two figures", does(c, "s5 17;"), 1);
        due("two figures told", c.told(10), 17);
        due("three figures", does(c, "s5 123;"), 1);
        due("three figures told", c.told(10), 123);
        due("four figures", does(c, "s3 4321;"), 1);
        due("four figures told", c.told(8), 4321);
        due("noughts ahead", does(c, "s0005 0009;"), 1);
        due("noughts ahead told", c.told(10), 9);
        due("nought alone", does(c, "s5 0;"), 1);
        due("nought told", c.told(10), 0);
        due("four noughts", does(c, "s0000 0000;"), 1);
        due("four noughts told", c.told(5), 0);
        due("the greatest", does(c, "s3 9999;"), 1);
        due("the greatest told", c.told(8), 9999);
        due("five figures", does(c, "s3 12345;"), -10 - 7);
        due("five noughts", does(c, "s5 00000;"), -10 - 7);
        due("five figures first", does(c, "s00003 500;"), -10 - 5);
        due("six figures", does(c, "s3 123456;"), -10 - 7);
        due("five figures at the end", does(c, "s3 12345"), -10 - 7);
        due("nothing of these was done", c.told(8), 9999);
    }

    private static void blanksAnywhereButInNumbers() {
        PhaseCells c = new PhaseCells();
        due("no blank but the one needed", does(c, "v0 11;v1 12;"), 2);
        due("blanks ahead", does(c, "   v0 13;"), 1);
        due("blanks behind the letter", does(c, "v   0 14;"), 1);
        due("blanks between numbers", does(c, "v0    15;"), 1);
        due("blanks ahead of the end", does(c, "v0 16   ;"), 1);
        due("blanks between orders", does(c, "v0 17;   v1 18;"), 2);
        due("blanks behind all", does(c, "v0 19;   "), 1);
        due("told then", c.told(2) * 100 + c.told(3), 1918);
        due("a blank within a number makes two", does(c, "v0 2 0;"), -10 - 5);
        due("two numbers without a blank are one", does(c, "v020;"), -10 - 4);
        due("a tab is no blank", does(c, "v0\t20;"), -10 - 2);
        due("nor is a line's end", does(c, "v0 20;\n"), -10 - 6);
        due("nor is 0", does(c, "v0 20;\0"), -10 - 6);
        due("as before", c.told(2) * 100 + c.told(3), 1918);
    }

    /** "the TEXT's length, if it ends too early (one that is empty or has blanks alone, too)". */
    private static void endsTooEarly() {
        PhaseCells c = new PhaseCells();
        due("a text that never was", c.does(), -10);
        due("empty", does(c, ""), -10);
        due("a blank", does(c, " "), -11);
        due("150 blanks", does(c, " ".repeat(150)), -160);
        String whole = "e 1 2 0 1234 567 ;";
        for (int end = 0; end < whole.length(); end++) {
            due("cut at " + end, does(c, whole.substring(0, end)), -10 - end);
            due("cut at " + end + " behind an order", does(c, "v0 77;" + whole.substring(0, end)),
                whole.substring(0, end).isBlank() ? 1 : -16 - end);
            if (c.refused(4) > 0) {
                c.back();
            }
        }
        due("whole", does(c, whole), 1);
    }

    /** A text that ended within a number or an order leaves nothing to the next. */
    private static void earlierTextsAreForgotten() {
        String[] earlier = {"g1 1", "g1 1234", "g", "g1", "g1 1;", "g1 1;v0 5", "g9 9;", "x", "g1 12345"};
        for (String text : earlier) {
            PhaseCells c = new PhaseCells();
            does(c, text);
            due("a figure behind " + text, does(c, "1;"), -10);
            does(c, text);
            due("an end behind " + text, does(c, ";"), -10);
            does(c, text);
            due("nothing behind " + text, does(c, ""), -10);
            does(c, text);
            due("an order behind " + text, does(c, "v1 1234;"), 1);
            due("its number", c.told(3), 1234);
        }
    }

    private static void fullTexts() {
        PhaseCells c = new PhaseCells();
        due("150 bytes", does(c, "g1 1;".repeat(29) + "g2 2;"), 30);
        due("the last of thirty", c.told(0), 2);
        due("they are 150", c.refused(3), 150);
        due("the thirtieth ends all", does(c, "g1 1;".repeat(29) + "g2 5;"), -1029);
        due("a fault at the last byte", does(c, "g1 1;".repeat(29) + "g2 2,"), -10 - 149);
        due("too early at 150", does(c, "g1 1;".repeat(29) + "g2 2 "), -160);
        due("an end at the last byte", does(c, " ".repeat(145) + "g3 3;"), 1);
        due("done", c.told(0), 3);
        due("what comes behind 150 is lost", does(c, "g1 1;".repeat(30) + "x"), 30);
        due("it was FULL once", c.refused(2), 1);
        due("many numbers", does(c, "l0 0 0 1;".repeat(16)), 16);
        due("all sixteen", c.raw(0, 0, 0, 0, 0), 16);
    }

    /** A FAULT behind an ORDER that would end all is found first. */
    private static void readWholeFirst() {
        PhaseCells c = new PhaseCells();
        due("a fault behind a refused order", does(c, "g9 9;x"), -15);
        due("too early behind a refused order", does(c, "g9 9;g1 1"), -19);
        due("a second end", does(c, "g9 9;;"), -15);
        due("without it", does(c, "g9 9;"), -1000);
        due("the first of two faults", does(c, "g1 x;y"), -13);
        due("the first of two refused orders", does(c, "v0 50;g0 1;g9 9;"), -1001);
    }

    /** What the orders ahead of one have made counts for it: a grid that has grown or shrunk. */
    private static void ordersJudgedInTurn() {
        PhaseCells c = new PhaseCells();
        due("a cell that is not there", does(c, "l0 3 3 5;g4 4;"), -1000);
        due("a cell that has come", does(c, "g4 4;l0 3 3 5;"), 2);
        due("it is lit", c.raw(0, 3, 3, 0, 0), 5);
        due("a cell that has gone", does(c, "g1 1;l0 3 3 5;"), -1001);
        due("it is lit yet", c.raw(0, 3, 3, 0, 0), 5);
        due("echoes by the new wave", does(c, "g1 1;v0 100;e0 0 0 150 40;"), 3);
        due("half of it", c.of(0, 0, 0, 0, 0), -40);
    }

    /** An ORDER that ends all: none of those ahead of it has been done. */
    private static void nothingIsDone() {
        PhaseCells c = new PhaseCells();
        c.shines(1, 2, 2, 9);
        types(c, "g1 1;v0 10;s0 1;e0 0 0 5 5;l0 0 0 5;c0 0 0;g5 5;");
        PhaseCells like = new PhaseCells();
        like.shines(1, 2, 2, 9);
        types(like, "g1 1;v0 10;s0 1;e0 0 0 5 5;l0 0 0 5;c0 0 0;g5 5;");
        due("the seventh", c.does(), -1006);
        due("all is as it was", c.digest(), like.digest());
        due("it ends all again", c.does(), -1006);
        due("one state", c.back(), 0);
        like.back();
        due("as at first", c.digest(), like.digest());
        // what was reckoned ahead of a text that is not done holds yet
        c.echo(0, 0, 0, 1234, 700);
        due("a distance", c.cell(0, 0, 0, 0), 1234);
        due("not done", does(c, "c0 0 0;v0 100;v9 9;"), -1002);
        due("the distance yet", c.cell(0, 0, 0, 0), 1234);
        due("marks yet", c.marks(0, 2), 8);
    }

    private static void oneStateForAll() {
        PhaseCells c = new PhaseCells();
        due("three orders", does(c, "v0 100;v0 101;v0 102;"), 3);
        due("one state", c.refused(4), 1);
        due("an order that changes nothing", does(c, "v0 102;"), 1);
        due("leaves one, too", c.refused(4), 2);
        does(c, "x");
        does(c, "v0 1;");
        due("faults and refused orders leave none", c.refused(4), 2);
        due("back of nothing changed", c.back(), 1);
        due("as before", c.told(2), 102);
        due("back over all three", c.back(), 0);
        due("as at first", c.told(2), 500);
        for (int i = 0; i < 7; i++) {
            does(c, "v0 11" + i + ";");
        }
        due("five at most", c.refused(4), 5);
        for (int i = 4; i >= 0; i--) {
            due("back", c.back(), i);
            due("back to", c.told(2), 111 + i);
        }
        due("older ones are lost", c.back(), NO);
    }

    /** "(THE TEXT stays)": after what is done, a fault, an order that ends all, and back(). */
    private static void textStays() {
        PhaseCells c = new PhaseCells();
        types(c, "v0 100;");
        due("done", c.does(), 1);
        due("stays when done", c.refused(3), 7);
        due("back", c.back(), 0);
        due("stays by back", c.refused(3), 7);
        due("done again", c.does(), 1);
        due("told", c.told(2), 100);
        due("more behind it", types(c, "v9 9;"), 12);
        due("ends all", c.does(), -1001);
        due("stays when not done", c.refused(3), 12);
        due("a fault behind it", types(c, "?"), 13);
        due("fault", c.does(), -22);
        due("stays with a fault", c.refused(3), 13);
        due("stays by other calls", c.grid(1, 1) + c.refused(3), 22);
        due("cleared", c.clear(), 13);
        due("nothing stays", c.does(), -10);
    }

    private static void typeAndClearAtTheEnds() {
        PhaseCells c = new PhaseCells();
        due("clear of none", c.clear(), 0);
        due("the least byte", c.type(0), 1);
        due("the greatest byte", c.type(127), 2);
        due("clear of two", c.clear(), 2);
        due("no byte", c.refused(3), 0);
        for (int i = 1; i <= 150; i++) {
            due("how many it has", c.type('0' + i % 10), i);
        }
        due("FULL", c.type('0'), FULL);
        due("still 150", c.refused(3), 150);
        due("FULL again", c.type(' '), FULL);
        due("clear of a full one", c.clear(), 150);
        due("room again", c.type('g'), 1);
        due("an old byte is not read", c.does(), -11);
        due("no state by any of these", c.refused(4), 0);
        due("nothing to go back to", c.back(), NO);
    }
}
