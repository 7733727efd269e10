/** Each promise by answers that were found by hand from the document: ordinary calls, edges, wrong arguments. */
public final class PromisesTest {
    private static final Check CHECK = new Check();
    private static final int NONE = EvenTables.NONE;
    /** 3 2 1; 2 2 2; 1 2 3 over 6. */
    private static final String THIRDS = "1/2 1/3 1/6;1/3 1/3 1/3;1/6 1/3 1/2;";
    private static final int[] WRONG = {-1, Integer.MIN_VALUE, Integer.MAX_VALUE};

    public static void main(String[] args) {
        newObject();
        tape();
        tables();
        looks();
        cells();
        uneven();
        mixes();
        products();
        turns();
        peels();
        parts();
        weightsAndDraws();
        joints();
        bounds();
        lacks();
        pairings();
        bestChoices();
        permanents();
        sought();
        rounded();
        most();
        mixingAndKin();
        shown();
        shops();
        work();
        kept();
        CHECK.finish("PromisesTest");
    }

    private static EvenTables with(String promise, String... texts) {
        CHECK.in(promise);
        EvenTables x = new EvenTables();
        for (int slot = 0; slot < texts.length; slot++) {
            if (Check.tell(x, slot, texts[slot]) == NONE) {
                CHECK.fail("the text \"" + texts[slot] + "\" was not taken");
            }
        }
        return x;
    }

    private static void hasCells(EvenTables x, int slot, int below, int... cells) {
        int n = x.look(slot, 0);
        CHECK.due("rows of slot " + slot, n * n, cells.length);
        CHECK.due("below of slot " + slot, x.look(slot, 1), below);
        for (int i = 0; i < cells.length && n > 0; i++) {
            CHECK.due("cell " + i + " of slot " + slot, x.cell(slot, i / n, i % n), cells[i]);
        }
    }

    private static void shows(EvenTables x, String text) {
        CHECK.due("show()", x.show(), text.length());
        for (int i = 0; i < text.length(); i++) {
            CHECK.due("out(" + i + ") of " + text, x.out(i), text.charAt(i));
        }
        CHECK.due("out at the end", x.out(text.length()), NONE);
    }

    private static void newObject() {
        EvenTables x = with("promise 1");
        for (int slot = 0; slot < 4; slot++) {
            CHECK.due("look(slot, 0)", x.look(slot, 0), 0);
        }
        for (int what = 0; what < 5; what++) {
            CHECK.due("kept(" + what + ")", x.kept(what), 0);
        }
        CHECK.due("fault(0)", x.fault(0), 0);
        CHECK.due("fault(1)", x.fault(1), NONE);
        CHECK.due("out(0)", x.out(0), NONE);
        CHECK.due("part(0, 0)", x.part(0, 0), NONE);
        CHECK.due("most(0, 2)", x.most(0, 2), NONE);
    }

    private static void tape() {
        EvenTables x = with("promise 2");
        // "1 0;0 1;" and twelve blanks: the highest byte of each number comes first.
        CHECK.due("feed", x.feed(0x3120303B, 0x3020313B, 0x20202020, 0x20202020, 0x20202020), 20);
        CHECK.due("table(0)", x.table(0), 2);
        hasCells(x, 0, 1, 1, 0, 0, 1);
        for (int i = 1; i <= 30; i++) {
            CHECK.due("feed " + i, x.feed(-1, 0, 0, 0, 0), 20 * i);
        }
        CHECK.due("feed beyond", x.feed(0, 0, 0, 0, 0), NONE);
        CHECK.due("kept(4)", x.kept(4), 600);
        CHECK.in("promise 3");
        CHECK.due("end(601)", x.end(601), false);
        CHECK.due("end(600)", x.end(600), true);
        CHECK.due("end(581)", x.end(581), true);
        CHECK.due("feed", x.feed(0, 0, 0, 0, 0), NONE);
        CHECK.due("kept(4)", x.kept(4), 581);
        CHECK.due("end(580)", x.end(580), true);
        CHECK.due("feed", x.feed(0, 0, 0, 0, 0), 600);
        for (int n : WRONG) {
            CHECK.due("end(" + n + ")", x.end(n), false);
        }
        CHECK.due("end(0)", x.end(0), true);
        CHECK.due("end(1)", x.end(1), false);
        CHECK.due("kept(4)", x.kept(4), 0);
    }

    private static void tables() {
        EvenTables x = with("promises 4 and 5", "1 2;3 4;");
        CHECK.due("a fault", Check.tell(x, 0, "1 x"), NONE);
        CHECK.due("fault(0)", x.fault(0), 1);
        CHECK.due("fault(1)", x.fault(1), 2);
        CHECK.due("fault(2)", x.fault(2), NONE);
        CHECK.due("fault(-1)", x.fault(-1), NONE);
        hasCells(x, 0, 1, 1, 2, 3, 4);
        for (int slot : new int[] {4, -1, Integer.MIN_VALUE, Integer.MAX_VALUE}) {
            Check.tell(x, 0, "x");
            CHECK.due("no such slot", Check.tell(x, slot, "x"), -2);
            CHECK.due("fault(0)", x.fault(0), 0);
            CHECK.due("fault(1)", x.fault(1), NONE);
            CHECK.due("kept(4)", x.kept(4), 0);
        }
        CHECK.due("no rows", Check.tell(x, 0, " "), 0);
        CHECK.due("look(0, 1)", x.look(0, 1), 0);
        CHECK.due("cell(0, 0, 0)", x.cell(0, 0, 0), NONE);
        CHECK.due("slot 3", Check.tell(x, 3, "5/10;"), 1);
        hasCells(x, 3, 2, 1);
    }

    private static void looks() {
        EvenTables x = with("promise 6", THIRDS, "0 0;0 0;", "1 2;3 0;", "0 1 0;1 0 0;0 0 1;");
        int[][] due = {{3, 6, 6, 9, 3, 1}, {2, 1, NONE, 0, 0, 4}, {2, 1, NONE, 3, 3, 1}, {3, 1, 1, 3, 1, 3}};
        for (int slot = 0; slot < 4; slot++) {
            for (int what = 0; what < 6; what++) {
                CHECK.due("look(" + slot + ", " + what + ")", x.look(slot, what), due[slot][what]);
            }
            CHECK.due("look(slot, 6)", x.look(slot, 6), -2);
            CHECK.due("look(slot, -1)", x.look(slot, -1), -2);
        }
        CHECK.due("look(4, 0)", x.look(4, 0), -2);
        CHECK.due("look(-1, 0)", x.look(-1, 0), -2);
        Check.tell(x, 0, "1 0 0;1 0 0;0 0 0;");
        CHECK.due("groups: rows 0 and 1 with column 0, row 2, columns 1 and 2", x.look(0, 5), 4);
        Check.tell(x, 0, "");
        int[] none = {0, 0, NONE, 0, 0, 0};
        for (int what = 0; what < 6; what++) {
            CHECK.due("look(0, " + what + ")", x.look(0, what), none[what]);
        }
    }

    private static void cells() {
        EvenTables x = with("promise 7", "1 2;3 4;");
        hasCells(x, 0, 1, 1, 2, 3, 4);
        for (int i : new int[] {2, -1, 8, Integer.MIN_VALUE, Integer.MAX_VALUE}) {
            CHECK.due("row " + i, x.cell(0, i, 0), NONE);
            CHECK.due("column " + i, x.cell(0, 0, i), NONE);
        }
        CHECK.due("no table", x.cell(1, 0, 0), NONE);
        CHECK.due("no slot", x.cell(4, 0, 0), NONE);
        // What stood there once is no cell of a smaller table.
        Check.tell(x, 0, "9;");
        CHECK.due("cell(0, 0, 1)", x.cell(0, 0, 1), NONE);
    }

    private static void uneven() {
        EvenTables x = with("promise 8", "1 2;3 4;", "1 2;1 2;", "1 1 1;1 2 0;1 1 1;", THIRDS);
        CHECK.due("uneven(0)", x.uneven(0), 1);
        CHECK.due("uneven(1)", x.uneven(1), 8);
        CHECK.due("uneven(2)", x.uneven(2), 9);
        CHECK.due("uneven(3)", x.uneven(3), NONE);
        CHECK.due("uneven(4)", x.uneven(4), NONE);
        Check.tell(x, 0, "0 0;0 0;");
        CHECK.due("all 0", x.uneven(0), NONE);
        Check.tell(x, 0, "");
        CHECK.due("no table", x.uneven(0), NONE);
    }

    private static void mixes() {
        EvenTables x = with("promise 9", "1/2 1/3;0 1;", "1 2;3 4;", "1;");
        CHECK.due("mix", x.mix(0, 2, 3, 1, 1, 4, 3), true);
        // 1/3 + 1/4, 2/9 + 1/2; 3/4, 2/3 + 1.
        hasCells(x, 3, 36, 21, 26, 27, 60);
        CHECK.due("into one of them", x.mix(1, 1, 1, 0, 1, 1, 1), true);
        hasCells(x, 1, 6, 9, 14, 18, 30);
        CHECK.due("n unlike", x.mix(0, 1, 1, 2, 1, 1, 3), false);
        CHECK.due("x 0, u 0", x.mix(0, 0, 7, 0, 0, 9, 3), true);
        hasCells(x, 3, 1, 0, 0, 0, 0);
        int[][] wrong = {{4, 1, 1, 0, 1, 1, 0}, {0, -1, 1, 0, 1, 1, 0}, {0, 10000, 1, 0, 1, 1, 0}, {0, 1, 0, 0, 1, 1, 0},
            {0, 1, 10000, 0, 1, 1, 0}, {0, 1, 1, -1, 1, 1, 0}, {0, 1, 1, 0, -1, 1, 0}, {0, 1, 1, 0, 10000, 1, 0},
            {0, 1, 1, 0, 1, 0, 0}, {0, 1, 1, 0, 1, 10000, 0}, {0, 1, 1, 0, 1, 1, 4}, {0, 1, 1, 0, 1, 1, -1}};
        for (int[] w : wrong) {
            CHECK.due("wrong", x.mix(w[0], w[1], w[2], w[3], w[4], w[5], w[6]), false);
        }
        Check.tell(x, 3, "");
        CHECK.due("no table", x.mix(0, 1, 1, 3, 1, 1, 0), false);
        CHECK.due("no table", x.mix(3, 1, 1, 3, 1, 1, 0), false);
        hasCells(x, 0, 6, 3, 2, 0, 6);
        mixBounds();
    }

    private static void mixBounds() {
        EvenTables x = with("promise 9, bounds", "1/125000;", "999999;", "99;");
        CHECK.due("a multiple of 1000000000", x.mix(0, 8000, 8000, 0, 0, 1, 3), true);
        hasCells(x, 3, 125000, 1);
        CHECK.due("a multiple above", x.mix(0, 8001, 8001, 0, 0, 1, 3), false);
        CHECK.due("the greatest cell", x.mix(1, 100, 1, 2, 1, 1, 1), true);
        hasCells(x, 1, 1, 99999999);
        CHECK.due("a cell above", x.mix(1, 1, 1, 3, 1, 1, 1), false);
        CHECK.due("twice", x.mix(1, 2, 1, 1, 0, 1, 1), false);
        CHECK.due("twice by 2", x.mix(1, 2, 2, 1, 0, 1, 1), true);
        hasCells(x, 1, 1, 99999999);
        Check.tell(x, 0, "1/100000;");
        CHECK.due("999999990000000 over 10000000", x.mix(1, 1, 1, 0, 0, 100, 2), true);
        hasCells(x, 2, 1, 99999999);
        CHECK.due("1099999989000000 over 11000000", x.mix(1, 1, 1, 0, 0, 110, 2), false);
        sumBounds(x);
        Check.tell(x, 0, "1/100000;");
        CHECK.due("below 1000000", x.mix(0, 1, 10, 0, 0, 1, 2), false);
        CHECK.due("below 500000", x.mix(0, 1, 5, 0, 0, 1, 2), true);
        hasCells(x, 2, 500000, 1);
    }

    /** 78125000 over 12800000 is just 1000000000000000; 3125 by 4096 times 4096 by 3125 is 1. */
    private static void sumBounds(EvenTables x) {
        Check.tell(x, 2, "4096/3125;");
        Great.tell(x, 0, new long[][] {{78125000}});
        CHECK.due("just the greatest sum", x.mix(0, 1, 1, 2, 0, 4096, 3), true);
        hasCells(x, 3, 1, 78125000);
        CHECK.due("two parts of a sum above", x.mix(0, 1, 1, 2, 3125, 4096, 3), false);
        CHECK.due("two parts of a sum above", x.mix(2, 3125, 4096, 0, 1, 1, 3), false);
        Great.tell(x, 0, new long[][] {{78125001}});
        CHECK.due("above", x.mix(0, 1, 1, 2, 0, 4096, 3), false);
        CHECK.due("above", x.mix(2, 0, 4096, 0, 1, 1, 3), false);
        Great.tell(x, 0, new long[][] {{78124999}});
        CHECK.due("two parts of the greatest sum", x.mix(2, 3125, 4096, 0, 1, 1, 3), true);
        hasCells(x, 3, 1, 78125000);
    }

    private static void products() {
        EvenTables x = with("promise 10", "1/2 1/3;0 1;", "1 2;3 4;", "1;");
        CHECK.due("times", x.times(0, 1, 3), true);
        // 1/2 + 1, 1 + 4/3; 3, 4.
        hasCells(x, 3, 6, 9, 14, 18, 24);
        CHECK.due("the other way", x.times(1, 0, 1), true);
        // 1/2, 1/3 + 2; 3/2, 1 + 4.
        hasCells(x, 1, 6, 3, 14, 9, 30);
        CHECK.due("n unlike", x.times(0, 2, 3), false);
        CHECK.due("no slot", x.times(4, 0, 3), false);
        CHECK.due("no slot", x.times(0, -1, 3), false);
        CHECK.due("no slot", x.times(0, 0, 4), false);
        Check.tell(x, 0, "");
        CHECK.due("no table", x.times(0, 0, 3), false);
        Check.tell(x, 0, "1/1000;");
        CHECK.due("below too great", x.times(0, 0, 3), false);
        Check.tell(x, 0, "1/999;");
        CHECK.due("below great", x.times(0, 0, 3), true);
        hasCells(x, 3, 998001, 1);
        Check.tell(x, 0, "10000;");
        CHECK.due("cell too great", x.times(0, 0, 3), false);
        Check.tell(x, 0, "9999;");
        CHECK.due("cell great", x.times(0, 0, 3), true);
        hasCells(x, 3, 1, 99980001);
        // Only what stands in least terms then is refused: 98999901 by 999998 times 96999806 by 999999 is 99 times 97.
        Check.tell(x, 0, "999999/999998;");
        Check.tell(x, 1, "999998/999999;");
        x.mix(0, 99, 1, 0, 0, 1, 0);
        x.mix(1, 97, 1, 1, 0, 1, 1);
        CHECK.due("great, then reduced", x.times(0, 1, 3), true);
        hasCells(x, 3, 1, 9603);
    }

    private static void turns() {
        EvenTables x = with("promise 11", "1/2 2 3;4 5 6;7 8 9;");
        int[][] due = {{1, 4, 6, 8, 10, 12, 14, 16, 18}, {1, 8, 14, 4, 10, 16, 6, 12, 18}, {14, 16, 18, 8, 10, 12, 1, 4, 6},
            {6, 4, 1, 12, 10, 8, 18, 16, 14}, {1, 4, 6, 14, 16, 18, 8, 10, 12}, {1, 6, 4, 8, 12, 10, 14, 18, 16}};
        for (int how = 0; how < 6; how++) {
            CHECK.due("turn " + how, x.turn(0, how, 1, 1), true);
            hasCells(x, 1, 2, due[how]);
            CHECK.due("turn in one slot " + how, x.turn(0, 0, 0, 2) && x.turn(2, how, 1, 2), true);
            hasCells(x, 2, 2, due[how]);
        }
        CHECK.due("the last row", x.turn(0, 4, 2, 1), true);
        hasCells(x, 1, 2, due[0]);
        for (int r : new int[] {3, -1, Integer.MIN_VALUE, Integer.MAX_VALUE}) {
            CHECK.due("turn 4 " + r, x.turn(0, 4, r, 1), false);
            CHECK.due("turn 5 " + r, x.turn(0, 5, r, 1), false);
            CHECK.due("turn 3 " + r, x.turn(0, 3, r, 2), true);
        }
        CHECK.due("how 6", x.turn(0, 6, 0, 1), false);
        CHECK.due("how -1", x.turn(0, -1, 0, 1), false);
        CHECK.due("no table", x.turn(3, 0, 0, 1), false);
        CHECK.due("no slot", x.turn(4, 0, 0, 1), false);
        CHECK.due("no slot", x.turn(0, 0, 0, 4), false);
        hasCells(x, 1, 2, due[0]);
    }

    private static void peels() {
        EvenTables x = with("promise 12", THIRDS, "1 2;3 4;", "5;", "4 0 1;1 2 2;0 3 2;");
        String[] due = {"2:012;1:021;1:102;1:120;1:201;", "2:012;1:021;1:102;1:120;1:201;",
            "1:201;1:102;1:120;1:021;2:012;", "2:012;1:021;1:102;1:120;1:201;"};
        for (int rule = 0; rule < 4; rule++) {
            CHECK.due("peel(0, " + rule + ")", x.peel(0, rule), 5);
            shows(x, due[rule]);
        }
        // 4 0 1; 1 2 2; 0 3 2: choices 012 (least 2, sum 8), 021 (least 2, sum 9), 201 (least 1, sum 5).
        CHECK.due("rule 0", x.peel(3, 0), 3);
        shows(x, "2:012;2:021;1:201;");
        CHECK.due("rule 1", x.peel(3, 1), 3);
        shows(x, "2:012;2:021;1:201;");
        CHECK.due("rule 2", x.peel(3, 2), 3);
        shows(x, "1:201;2:012;2:021;");
        CHECK.due("rule 3", x.peel(3, 3), 3);
        shows(x, "2:021;2:012;1:201;");
        // 1 6 0; 3 1 3; 3 0 4: 012 has the least cell 1, 102 has 3.
        Check.tell(x, 3, "1 6 0;3 1 3;3 0 4;");
        CHECK.due("rule 0", x.peel(3, 0), 3);
        shows(x, "1:012;3:102;3:120;");
        CHECK.due("rule 1", x.peel(3, 1), 3);
        shows(x, "3:102;3:120;1:012;");
        CHECK.due("not even", x.peel(1, 0), NONE);
        CHECK.due("no slot", x.peel(4, 0), NONE);
        CHECK.due("rule 4", x.peel(0, 4), NONE);
        CHECK.due("rule -1", x.peel(0, -1), NONE);
        CHECK.due("kept(1)", x.kept(1), 3);
        CHECK.due("one cell", x.peel(2, 3), 1);
        shows(x, "5:0;");
        // What is kept stays, when the table goes.
        Check.tell(x, 2, "");
        CHECK.due("kept(1)", x.kept(1), 1);
        CHECK.due("weight(0, 0)", x.weight(0, 0), 5);
        Check.tell(x, 2, "0 0;0 0;");
        CHECK.due("all 0", x.peel(2, 0), NONE);
    }

    private static void parts() {
        EvenTables x = with("promise 13", THIRDS);
        x.peel(0, 0);
        int[][] due = {{0, 1, 2}, {0, 2, 1}, {1, 0, 2}, {1, 2, 0}, {2, 0, 1}};
        for (int k = 0; k < 5; k++) {
            for (int row = 0; row < 3; row++) {
                CHECK.due("part(" + k + ", " + row + ")", x.part(k, row), due[k][row]);
            }
            CHECK.due("part(k, 3)", x.part(k, 3), NONE);
        }
        CHECK.due("part(5, 0)", x.part(5, 0), NONE);
        for (int i : WRONG) {
            CHECK.due("part(" + i + ", 0)", x.part(i, 0), NONE);
            CHECK.due("part(0, " + i + ")", x.part(0, i), NONE);
        }
    }

    private static void weightsAndDraws() {
        EvenTables x = with("promise 14", THIRDS);
        x.peel(0, 0);
        CHECK.due("weight(0, 0)", x.weight(0, 0), 2);
        CHECK.due("weight(0, 1)", x.weight(0, 1), 1);
        CHECK.due("weight(0, 2)", x.weight(0, 2), 3);
        CHECK.due("weight(4, 1)", x.weight(4, 1), 1);
        CHECK.due("weight(4, 2)", x.weight(4, 2), 6);
        CHECK.due("weight(5, 0)", x.weight(5, 0), NONE);
        CHECK.due("weight(0, 3)", x.weight(0, 3), NONE);
        for (int i : WRONG) {
            CHECK.due("weight(" + i + ", 0)", x.weight(i, 0), NONE);
            CHECK.due("weight(0, " + i + ")", x.weight(0, i), NONE);
        }
        CHECK.in("promise 15");
        int[] drawn = {0, 0, 1, 2, 3, 4};
        for (int r = 0; r < 6; r++) {
            CHECK.due("draw(" + r + ")", x.draw(r), drawn[r]);
        }
        CHECK.due("draw(6)", x.draw(6), NONE);
        for (int i : WRONG) {
            CHECK.due("draw(" + i + ")", x.draw(i), NONE);
        }
        CHECK.due("nothing kept", new EvenTables().draw(0), NONE);
    }

    private static void joints() {
        EvenTables x = with("promise 16", THIRDS);
        CHECK.due("nothing kept", x.joint(0, 0, 0, 0, 0), NONE);
        x.peel(0, 0);
        int[][] due = {{0, 0, 1, 1, 1, 3}, {0, 0, 0, 0, 1, 2}, {0, 0, 0, 1, 0, 1}, {0, 1, 2, 2, 1, 6}, {1, 0, 2, 1, 1, 6},
            {2, 2, 0, 0, 1, 3}, {1, 2, 1, 2, 1, 3}, {0, 2, 1, 1, 0, 1}};
        for (int[] d : due) {
            CHECK.due("joint above", x.joint(d[0], d[1], d[2], d[3], 0), d[4]);
            CHECK.due("joint below", x.joint(d[0], d[1], d[2], d[3], 1), d[5]);
        }
        for (int i : new int[] {3, -1, Integer.MIN_VALUE, Integer.MAX_VALUE}) {
            CHECK.due("i " + i, x.joint(i, 0, 0, 0, 0), NONE);
            CHECK.due("j " + i, x.joint(0, i, 0, 0, 0), NONE);
            CHECK.due("k " + i, x.joint(0, 0, i, 0, 0), NONE);
            CHECK.due("l " + i, x.joint(0, 0, 0, i, 0), NONE);
            CHECK.due("what " + i, x.joint(0, 0, 0, 0, i), NONE);
        }
        CHECK.due("what 2", x.joint(0, 0, 0, 0, 2), NONE);
        // A shop has twice as many rows and columns.
        x.shop(0, 0);
        CHECK.due("of a shop", x.joint(5, 5, 5, 5, 1) > 0, true);
        CHECK.due("of a shop", x.joint(6, 5, 5, 5, 1), NONE);
    }

    private static void bounds() {
        EvenTables x = with("promise 17", THIRDS, "0 1 0;1 0 0;0 0 1;", "1 1;1 2;", "1 0 0 0;0 1 1 0;0 1 1 0;0 0 0 2;");
        CHECK.due("bound(0, 0)", x.bound(0, 0), 5);
        CHECK.due("bound(0, 1)", x.bound(0, 1), 4);
        CHECK.due("bound(1, 0)", x.bound(1, 0), 1);
        CHECK.due("bound(1, 1)", x.bound(1, 1), 1);
        CHECK.due("not even", x.bound(2, 0), NONE);
        CHECK.due("not even", x.bound(2, 1), NONE);
        Check.tell(x, 3, "2 0 0 0;0 1 1 0;0 1 1 0;0 0 0 2;");
        CHECK.due("6 cells less 8, 3 groups, 1", x.bound(3, 0), 2);
        CHECK.due("n above 3", x.bound(3, 1), NONE);
        CHECK.due("what 2", x.bound(0, 2), NONE);
        CHECK.due("what -1", x.bound(0, -1), NONE);
        CHECK.due("no slot", x.bound(4, 0), NONE);
        String[] texts = {"3;", "2 0;0 2;", "1 2;2 1;", "1 1 1;1 1 1;1 1 1;", "2 1 1;1 2 1;1 1 2;", "2 2 1;1 2 2;2 1 2;"};
        int[] fewest = {1, 1, 2, 3, 3, 3};
        for (int i = 0; i < texts.length; i++) {
            Check.tell(x, 3, texts[i]);
            CHECK.due("fewest of " + texts[i], x.bound(3, 1), fewest[i]);
        }
    }

    private static void lacks() {
        EvenTables x = with("promise 18", "1 0 0;1 0 0;0 1 1;", "0 0;0 0;", THIRDS);
        int[][] due = {{0, 1, 1, 3, 1}, {0, 0, 0, 0, 0}, {0, 2, 3, 7, 0}, {1, 1, 2, 3, 0}, {2, 3, 1, 2, 0}, {2, 99999999, 3, 7, 0}};
        for (int[] d : due) {
            for (int what = 0; what < 3; what++) {
                CHECK.due("lack(" + d[0] + ", " + d[1] + ", " + what + ")", x.lack(d[0], d[1], what), d[2 + what]);
            }
        }
        CHECK.due("L 100000000", x.lack(0, 100000000, 0), NONE);
        CHECK.due("L -1", x.lack(0, -1, 0), NONE);
        CHECK.due("what 3", x.lack(0, 0, 3), NONE);
        CHECK.due("what -1", x.lack(0, 0, -1), NONE);
        CHECK.due("no table", x.lack(3, 0, 0), NONE);
        CHECK.due("no slot", x.lack(4, 0, 0), NONE);
    }

    private static void pairings() {
        EvenTables x = with("promises 19 to 21", "0 1 1;1 1 0;1 0 1;", THIRDS);
        int[] first = {1, 0, 2};
        for (int row = 0; row < 3; row++) {
            CHECK.due("paired(0, 1, " + row + ")", x.paired(0, 1, row), first[row]);
            CHECK.due("paired(0, 0, " + row + ")", x.paired(0, 0, row), row);
            CHECK.due("paired(0, 2, " + row + ")", x.paired(0, 2, row), NONE);
        }
        CHECK.due("ways(0, 1)", x.ways(0, 1), 2);
        CHECK.due("ways(0, 0)", x.ways(0, 0), 6);
        CHECK.due("ways(0, 2)", x.ways(0, 2), 0);
        CHECK.due("ways(1, 2)", x.ways(1, 2), 3);
        CHECK.due("ways(0, 99999999)", x.ways(0, 99999999), 0);
        CHECK.due("widest(0)", x.widest(0), 1);
        CHECK.due("widest(1)", x.widest(1), 2);
        for (int wrong : new int[] {-1, 100000000, Integer.MIN_VALUE, Integer.MAX_VALUE}) {
            CHECK.due("ways(0, " + wrong + ")", x.ways(0, wrong), NONE);
            CHECK.due("ways(" + wrong + ", 0)", x.ways(wrong, 0), NONE);
            CHECK.due("paired(0, " + wrong + ", 0)", x.paired(0, wrong, 0), NONE);
            CHECK.due("paired(0, 0, " + wrong + ")", x.paired(0, 0, wrong), NONE);
            CHECK.due("paired(" + wrong + ", 0, 0)", x.paired(wrong, 0, 0), NONE);
            CHECK.due("widest(" + wrong + ")", x.widest(wrong), NONE);
        }
        CHECK.due("paired(0, 0, 3)", x.paired(0, 0, 3), NONE);
        CHECK.due("no table", x.paired(3, 0, 0), NONE);
        CHECK.due("no table", x.ways(3, 0), NONE);
        CHECK.due("no table", x.widest(3), NONE);
        Check.tell(x, 0, "0 0;0 1;");
        CHECK.due("widest 0", x.widest(0), 0);
        Check.tell(x, 0, "1 1 1 1 1 1 1 1;".repeat(8));
        CHECK.due("all choices", x.ways(0, 1), 40320);
        // The last two rows have the first two columns alone, so very many beginnings lead nowhere.
        Check.tell(x, 0, "1 1 1 1 1 1 1 1;".repeat(6) + "1 1 0 0 0 0 0 0;".repeat(2));
        for (int row = 0; row < 8; row++) {
            CHECK.due("paired(0, 1, " + row + ")", x.paired(0, 1, row), (row + 2) % 8);
        }
        Check.tell(x, 0, "1 1 1 1 1 1 1 1;".repeat(5) + "1 1 0 0 0 0 0 0;".repeat(3));
        CHECK.due("none", x.paired(0, 1, 0), NONE);
    }

    private static void bestChoices() {
        EvenTables x = with("promise 22", "1 2;3 4;", "1 5 0;0 0 0;7 0 0;");
        CHECK.due("best(0, 0)", x.best(0, 0), 5);
        CHECK.due("best(0, 10)", x.best(0, 10), 0);
        CHECK.due("best(0, 11)", x.best(0, 11), 1);
        int[] due = {1, 2, 0};
        CHECK.due("best(1, 0)", x.best(1, 0), 12);
        for (int row = 0; row < 3; row++) {
            CHECK.due("best(1, 10 + row)", x.best(1, 10 + row), due[row]);
        }
        for (int what : new int[] {1, 9, 12, -1, 20, Integer.MIN_VALUE, Integer.MAX_VALUE}) {
            CHECK.due("best(0, " + what + ")", x.best(0, what), NONE);
        }
        CHECK.due("no table", x.best(2, 0), NONE);
        CHECK.due("no slot", x.best(-1, 0), NONE);
    }

    private static void permanents() {
        EvenTables x = with("promise 23", "1 2;3 4;", THIRDS, "0;");
        CHECK.due("permanent(0)", x.permanent(0), 10);
        CHECK.due("permanent(1)", x.permanent(1), 52);
        CHECK.due("permanent(2)", x.permanent(2), 0);
        CHECK.due("no table", x.permanent(3), NONE);
        CHECK.due("no slot", x.permanent(4), NONE);
        Great.tell(x, 0, new long[][] {{82506439, 0, 0}, {0, 31252369, 0}, {0, 0, 3577}});
        CHECK.due("the greatest long", x.permanent(0), Long.MAX_VALUE);
        Great.tell(x, 0, new long[][] {{33554432, 0, 0}, {0, 33554432, 0}, {0, 0, 8192}});
        CHECK.due("one more", x.permanent(0), -2);
        Great.tell(x, 0, new long[][] {{33554432, 0, 0}, {0, 33554432, 0}, {0, 0, 8191}});
        CHECK.due("less", x.permanent(0), 33554432L * 33554432L * 8191L);
        // The sum of the first three rows is beyond, though all choices come to 0.
        Great.tell(x, 0, new long[][] {{99999999, 0, 0, 0}, {0, 99999999, 0, 0}, {0, 0, 99999999, 0}, {0, 0, 0, 0}});
        CHECK.due("a sum on the way", x.permanent(0), -2);
    }

    private static void sought() {
        EvenTables x = with("promise 24", THIRDS, "1 2;3 4;", "1 0 0 0 0;0 1 0 0 0;0 0 1 0 0;0 0 0 1 0;0 0 0 0 1;", "3 0;0 3;");
        int[] due = {5, 0, 0, 0, 0};
        int[] one = {1, 0, 0, 0, 0};
        for (int what = 0; what < 5; what++) {
            CHECK.due("sought(0, " + what + ")", x.sought(0, what), due[what]);
            CHECK.due("sought(3, " + what + ")", x.sought(3, what), one[what]);
            CHECK.due("not even", x.sought(1, what), NONE);
            CHECK.due("n above 4", x.sought(2, what), NONE);
        }
        CHECK.due("sought(0, 5)", x.sought(0, 5), NONE);
        CHECK.due("sought(0, -1)", x.sought(0, -1), NONE);
        CHECK.due("sought(4, 0)", x.sought(4, 0), NONE);
        // 2 by 012, 3 by 120, 4 by 201, 5 by 021: what was sought of another table in the slot doesn't count.
        Check.tell(x, 0, "7 3 4;4 2 8;3 9 2;");
        CHECK.due("after a change", x.sought(0, 0), 4);
        // Rule 0 begins by 0213, and 1230, 2013 and 2031 are left; rule 1 by 1230 and then 2013, and 0231 is left.
        Check.tell(x, 0, "1 4 4 0;4 0 5 0;0 4 0 5;4 1 0 4;");
        int[] three = {3, 1, 1, 0, 0};
        for (int what = 0; what < 5; what++) {
            CHECK.due("of three parts, " + what, x.sought(0, what), three[what]);
        }
    }

    private static void rounded() {
        String[] texts = {THIRDS, "1/2 1/2;1/2 1/2;", "1/3 1/3;1/3 1/3;", "5/3 1/3;7/2 4;", "2/3;", "3 4;5 6;", "0 0;0 0;"};
        int[][] due = {{0, 0, 1, 0, 1, 0, 1, 0, 0}, {0, 1, 1, 0}, {0, 0, 0, 1}, {1, 1, 4, 4}, {0}, {3, 4, 5, 6}, {0, 0, 0, 0}};
        EvenTables x = with("promise 25");
        for (int t = 0; t < texts.length; t++) {
            int n = Check.tell(x, 0, texts[t]);
            for (int i = 0; i < n * n; i++) {
                CHECK.due("rounded " + i + " of " + texts[t], x.rounded(0, i / n, i % n), due[t][i]);
            }
            CHECK.due("no row", x.rounded(0, n, 0), NONE);
            CHECK.due("no column", x.rounded(0, 0, n), NONE);
        }
        for (int i : WRONG) {
            CHECK.due("no slot", x.rounded(i, 0, 0), NONE);
            CHECK.due("no row", x.rounded(0, i, 0), NONE);
            CHECK.due("no column", x.rounded(0, 0, i), NONE);
        }
        CHECK.due("no table", x.rounded(1, 0, 0), NONE);
    }

    private static void most() {
        EvenTables x = with("promise 26", THIRDS);
        x.peel(0, 0);
        int[][] due = {{0, 3, 3}, {0, 2, 3}, {2, 3, 3}};
        for (int row = 0; row < 3; row++) {
            for (int what = 0; what < 3; what++) {
                CHECK.due("most(" + row + ", " + what + ")", x.most(row, what), due[row][what]);
            }
        }
        CHECK.due("most(3, 0)", x.most(3, 0), NONE);
        CHECK.due("most(0, 3)", x.most(0, 3), NONE);
        for (int i : WRONG) {
            CHECK.due("most(" + i + ", 0)", x.most(i, 0), NONE);
            CHECK.due("most(0, " + i + ")", x.most(0, i), NONE);
        }
        Check.tell(x, 1, "1 0;0 2;");
        x.shop(1, 0);
        CHECK.due("of a shop", x.most(3, 0), 3);
        CHECK.due("of a shop", x.most(3, 1), 2);
        CHECK.due("of a shop", x.most(2, 2), 2);
        CHECK.due("of a shop", x.most(4, 0), NONE);
    }

    private static void mixingAndKin() {
        StringBuilder ring = new StringBuilder();
        for (int i = 0; i < 8; i++) {
            for (int j = 0; j < 8; j++) {
                ring.append(j == (i + 1) % 8 || i == 7 && j == 1 ? "1 " : "0 ");
            }
            ring.append(';');
        }
        EvenTables x = with("promise 27", ring.toString(), "0 1;1 0;", "1 1;1 0;", "5 1;1 999999;");
        CHECK.due("mixing(0)", x.mixing(0), 50);
        CHECK.due("mixing(1)", x.mixing(1), NONE);
        CHECK.due("mixing(2)", x.mixing(2), 2);
        CHECK.due("mixing(3)", x.mixing(3), 1);
        CHECK.due("mixing(4)", x.mixing(4), NONE);
        CHECK.in("promise 28");
        for (int row = 0; row < 8; row++) {
            CHECK.due("kin(0, row)", x.kin(0, row), 255);
        }
        Check.tell(x, 0, "0 1 0;1 0 0;1 0 1;");
        int[] due = {3, 3, 4};
        for (int row = 0; row < 3; row++) {
            CHECK.due("kin(0, " + row + ")", x.kin(0, row), due[row]);
        }
        Check.tell(x, 1, "0 0;0 0;");
        CHECK.due("itself", x.kin(1, 1), 2);
        CHECK.due("kin(0, 3)", x.kin(0, 3), NONE);
        for (int i : WRONG) {
            CHECK.due("kin(0, " + i + ")", x.kin(0, i), NONE);
            CHECK.due("kin(" + i + ", 0)", x.kin(i, 0), NONE);
            CHECK.due("mixing(" + i + ")", x.mixing(i), NONE);
        }
        Check.tell(x, 1, "");
        CHECK.due("no table", x.kin(1, 0), NONE);
        CHECK.due("no table", x.mixing(1), NONE);
    }

    private static void shown() {
        EvenTables x = with("promises 29 and 30", "2 1;1 0;", "100 20;20 100;");
        CHECK.due("nothing", x.show(), 0);
        CHECK.due("out(0)", x.out(0), NONE);
        x.peel(1, 0);
        shows(x, "100:01;20:10;");
        x.shop(0, 0);
        CHECK.due("what was shown stays", x.out(0), '1');
        shows(x, "2:0321;1:1032;");
        for (int i : WRONG) {
            CHECK.due("out(" + i + ")", x.out(i), NONE);
        }
        // The longest weight of a shop has nine digits.
        Great.tell(x, 0, new long[][] {{99999999, 99999999}, {0, 0}});
        x.shop(0, 0);
        CHECK.due("LENGTH", x.kept(2), 199999998);
        shows(x, "99999999:0321;99999999:1302;");
    }

    private static void shops() {
        EvenTables x = with("promise 31", "2 1;1 0;", "0 0;0 0;", "1 0 0 0 0;0 1 0 0 0;0 0 1 0 0;0 0 0 1 0;0 0 0 0 1;", THIRDS);
        CHECK.due("shop(0, 0)", x.shop(0, 0), 2);
        int[][] due = {{0, 3, 2, 1}, {1, 0, 3, 2}};
        for (int k = 0; k < 2; k++) {
            for (int row = 0; row < 4; row++) {
                CHECK.due("part(" + k + ", " + row + ")", x.part(k, row), due[k][row]);
            }
            CHECK.due("part(k, 4)", x.part(k, 4), NONE);
        }
        CHECK.due("weight(0, 1)", x.weight(0, 1), 2);
        CHECK.due("weight(0, 2)", x.weight(0, 2), 3);
        CHECK.due("draw(2)", x.draw(2), 1);
        CHECK.due("draw(3)", x.draw(3), NONE);
        CHECK.due("all 0", x.shop(1, 0), NONE);
        CHECK.due("n above 4", x.shop(2, 0), NONE);
        CHECK.due("no slot", x.shop(4, 0), NONE);
        CHECK.due("rule 4", x.shop(0, 4), NONE);
        CHECK.due("rule -1", x.shop(0, -1), NONE);
        CHECK.due("what was kept stays", x.kept(1), 2);
        CHECK.due("an even table", x.shop(3, 1) > 0, true);
        CHECK.due("its LENGTH", x.kept(2), 6);
        Check.tell(x, 1, "");
        CHECK.due("no table", x.shop(1, 0), NONE);
    }

    private static void work() {
        EvenTables x = with("promises 32 and 33", "2 1;1 0;", "1 0;0 2;", "0 0;0 3;", "1 1;1 1;");
        x.peel(3, 0);
        CHECK.due("no shop", x.works(0, 0), NONE);
        CHECK.due("no shop", x.job(0, 0), NONE);
        x.shop(0, 0);
        int[][] on = {{0, 0, 1}, {NONE, NONE, 0}};
        int[][] jobs = {{2, 2, 1}, {2, 1, 0}};
        for (int job = 0; job < 2; job++) {
            for (int i = 0; i < 3; i++) {
                CHECK.due("works(" + job + ", " + i + ")", x.works(job, i), on[job][i]);
                CHECK.due("job(" + job + ", " + i + ")", x.job(job, i), jobs[job][i]);
            }
            CHECK.due("works(job, 3)", x.works(job, 3), NONE);
            CHECK.due("job(job, 3)", x.job(job, 3), NONE);
        }
        for (int i : new int[] {2, -1, Integer.MIN_VALUE, Integer.MAX_VALUE}) {
            CHECK.due("works(" + i + ", 0)", x.works(i, 0), NONE);
            CHECK.due("job(" + i + ", 0)", x.job(i, 0), NONE);
        }
        for (int i : WRONG) {
            CHECK.due("works(0, " + i + ")", x.works(0, i), NONE);
            CHECK.due("job(0, " + i + ")", x.job(0, i), NONE);
        }
        x.shop(1, 0);
        CHECK.due("done in the first hour", x.job(0, 0), 0);
        CHECK.due("done in the second hour", x.job(1, 0), 1);
        x.shop(2, 0);
        CHECK.due("never works", x.job(0, 0), NONE);
        CHECK.due("never works", x.job(0, 1), 0);
        CHECK.due("never works", x.job(0, 2), 0);
        x.peel(3, 0);
        CHECK.due("no shop any more", x.works(0, 0), NONE);
    }

    private static void kept() {
        EvenTables x = with("promise 34", THIRDS);
        x.feed(0, 0, 0, 0, 0);
        x.peel(0, 0);
        int[] parts = {1, 5, 6, 3, 20};
        for (int what = 0; what < 5; what++) {
            CHECK.due("kept(" + what + ")", x.kept(what), parts[what]);
        }
        Check.tell(x, 0, "2 1;1 0;");
        x.shop(0, 0);
        int[] shop = {2, 2, 3, 2, 0};
        for (int what = 0; what < 5; what++) {
            CHECK.due("kept(" + what + ")", x.kept(what), shop[what]);
        }
        CHECK.due("kept(5)", x.kept(5), NONE);
        CHECK.due("kept(-1)", x.kept(-1), NONE);
    }
}
