/** The edges of promises 12 to 17, sentence by sentence: parts, weights, what is drawn, bounds. */
public final class Edges12To17Test {
    private static final int NONE = Edges.NONE;
    private static final Edges EDGES = new Edges();
    /** By rules 0 and 2 it comes to 50 parts, and no table has more. */
    private static final String FULL = "1352 615 1966 1205 964 1304 1010 1143;1064 1186 253 1069 1616 1245 1678 1448;"
        + "792 1322 906 982 1228 1618 1743 968;1550 1006 539 1778 830 2231 1074 551;532 1596 2097 658 1284 751 1014 1627;"
        + "1800 1135 1252 726 627 754 1761 1504;1587 1643 639 2068 1437 668 376 1141;882 1056 1907 1073 1573 988 903 1177;";

    public static void main(String[] args) {
        oneCell();
        firstChoice();
        greatestLeastCell();
        throughLeastCell();
        greatestTogether();
        asLongAsCellsAreAbove0();
        fullOnes();
        allCallsOfAnObject();
        keptTillTheNext();
        notPeeled();
        partsOfRows();
        noSuchParts();
        weights();
        noSuchWeights();
        draws();
        notDrawn();
        joints();
        noSuchJoints();
        bounds();
        fewest();
        noSuchBounds();
        EDGES.finish("Edges12To17Test");
    }

    private static void peeled(String text, int rule, String due) {
        EvenTables x = EDGES.with(text);
        int parts = x.peel(0, rule);
        EDGES.due("rule " + rule + " of " + text, Edges.shown(x), due);
        EDGES.due("peel(0, " + rule + ")", parts, due.length() - due.replace(";", "").length());
        EDGES.due("kept(1)", x.kept(1), parts);
    }

    private static void oneCell() {
        EDGES.sentence("promise 12", "An EVEN TABLE is PEELED by a RULE: how many PARTS (one, and no more than one)");
        for (int rule = 0; rule < 4; rule++) {
            peeled("1;", rule, "1:0;");
            peeled("5/999999;", rule, "5:0;");
            peeled("0 3;3 0;", rule, "3:10;");
            peeled(Edges.slope(8, "5", "0"), rule, "5:01234567;");
            EvenTables x = new EvenTables();
            Great.tell(x, 0, new long[][] {{0, Edges.MOST_CELL}, {Edges.MOST_CELL, 0}});
            EDGES.due("the greatest cells", x.peel(0, rule), 1);
            EDGES.due("show()", Edges.shown(x), "99999999:10;");
        }
    }

    private static void firstChoice() {
        EDGES.sentence("promise 12, terms", "0 the first CHOICE");
        peeled("1 2;2 1;", 0, "1:01;2:10;");
        peeled("4 0 3;3 2 2;0 5 2;", 0, "2:012;2:021;3:201;");
        peeled("5 2 2;2 3 4;2 4 3;", 0, "3:012;2:021;2:120;2:201;");
        // 01 leads nowhere, as row 2 has no column 2.
        peeled("1 0 2;1 1 1;1 2 0;", 0, "1:021;1:201;1:210;");
    }

    private static void greatestLeastCell() {
        EDGES.sentence("promise 12, terms", "1 that whose least CELL is greatest; of several always the first CHOICE");
        peeled("1 2;2 1;", 1, "2:10;1:01;");
        peeled("2 2;2 2;", 1, "2:01;2:10;");
        peeled("4 0 3;3 2 2;0 5 2;", 1, "3:201;2:012;2:021;");
        // 201 and 210 have both the least cell 2, and 210 comes to more.
        peeled("1 0 4;2 3 0;2 2 1;", 1, "2:201;2:210;1:012;");
        peeled("5 2 2;2 3 4;2 4 3;", 1, "4:021;2:102;2:210;1:012;");
    }

    private static void throughLeastCell() {
        EDGES.sentence("promise 12, terms", "2 those through the least CELL above 0 that there is (of several the first by rows, then columns)");
        peeled("1 2;2 1;", 2, "1:01;2:10;");
        peeled("2 1;1 2;", 2, "1:10;2:01;");
        peeled("2 2;2 2;", 2, "2:01;2:10;");
        peeled("4 0 3;3 2 2;0 5 2;", 2, "2:012;2:021;3:201;");
        // The least cell is the last one of its row; then the first one of the last row.
        peeled("4 0 1;1 2 2;0 3 2;", 2, "1:201;2:012;2:021;");
        peeled("5 2 2;2 3 4;2 4 3;", 2, "2:102;1:012;2:210;4:021;");
        peeled("2 1 1;1 2 1;1 1 2;", 2, "1:102;1:210;1:012;1:021;");
    }

    private static void greatestTogether() {
        EDGES.sentence("promise 12, terms", "3 that whose CELLS together are greatest; of several always the first CHOICE");
        peeled("1 2;2 1;", 3, "2:10;1:01;");
        peeled("2 2;2 2;", 3, "2:01;2:10;");
        // 021 and 201 come both to 11, and 201 has the greater least cell.
        peeled("4 0 3;3 2 2;0 5 2;", 3, "2:021;3:201;2:012;");
        peeled("1 0 4;2 3 0;2 2 1;", 3, "2:210;2:201;1:012;");
        peeled("5 2 2;2 3 4;2 4 3;", 3, "4:021;1:012;2:102;2:210;");
        // 0123 comes to 6 too, and is ahead of the others, but it has a cell 0.
        peeled("0 1 1 1;1 2 0 0;1 0 2 0;1 0 0 2;", 3, "1:1023;1:2103;1:3120;");
    }

    private static void asLongAsCellsAreAbove0() {
        EDGES.sentence("promise 12, terms", "as long as CELLS are above 0; its CELLS get less by that");
        String table = Edges.slope(8, "1", "1");
        String due = "1:01234567;1:10325476;1:23016745;1:32107654;1:45670123;1:54761032;1:67452301;1:76543210;";
        for (int rule = 0; rule < 4; rule++) {
            peeled(table, rule, due);
        }
    }

    /** All cells of the full table, made up again of its parts. */
    private static void fullOnes() {
        EDGES.sentence("promise 12, terms", "PARTS (as many as there can be)");
        int[] due = {50, 35, 50, 40};
        String[] cells = FULL.split("[ ;]");
        for (int rule = 0; rule < 4; rule++) {
            EvenTables x = EDGES.with(FULL);
            EDGES.due("BOUND", x.bound(0, 0), 50);
            EDGES.due("peel(0, " + rule + ")", x.peel(0, rule), due[rule]);
            int[] left = new int[64];
            for (int i = 0; i < 64; i++) {
                left[i] = Integer.parseInt(cells[i]);
            }
            int whole = 0;
            for (int k = 0; k < due[rule]; k++) {
                int weight = x.weight(k, 0);
                whole += weight;
                for (int row = 0; row < 8; row++) {
                    left[row * 8 + x.part(k, row)] -= weight;
                }
            }
            EDGES.due("weights together", whole, 9559);
            for (int i = 0; i < 64; i++) {
                EDGES.due("left of cell " + i, left[i], 0);
            }
        }
    }

    private static void allCallsOfAnObject() {
        EDGES.sentence("what it is", "An object is used for at most 512 calls after it has been made");
        EvenTables x = EDGES.with(FULL);
        // 15 feeds, two times end() and table() were the first 18.
        int[] due = {50, 35, 50, 40};
        for (int call = 19; call <= 511; call++) {
            EDGES.due("call " + call + ", peel", x.peel(0, call % 4), due[call % 4]);
        }
        EDGES.due("call 512, kept(1)", x.kept(1), 40);
    }

    private static void keptTillTheNext() {
        EDGES.sentence("promise 12", "they are kept till the next peel(), shop()");
        EvenTables x = EDGES.with("1 2;2 1;", "5;", Edges.THIRDS);
        x.peel(0, 0);
        Check.tell(x, 0, "7;");
        EDGES.due("another table in its slot", Edges.shown(x), "1:01;2:10;");
        x.turn(2, 0, 0, 0);
        x.mix(1, 1, 2, 1, 1, 3, 0);
        x.times(1, 1, 0);
        Check.tell(x, 0, "");
        Check.tell(x, 1, "x");
        EDGES.due("tables made into its slot, none in it", Edges.shown(x), "1:01;2:10;");
        EDGES.due("kept(2)", x.kept(2), 3);
        EDGES.due("kept(3)", x.kept(3), 2);
        x.peel(1, 0);
        EDGES.due("the next one is less", Edges.shown(x), "5:0;");
        EDGES.due("part(1, 0)", x.part(1, 0), NONE);
        EDGES.due("part(0, 1)", x.part(0, 1), NONE);
        x.peel(2, 2);
        EDGES.due("the next one is more", Edges.shown(x), "1:201;1:102;1:120;1:021;2:012;");
        x.shop(1, 0);
        EDGES.due("a shop", Edges.shown(x), "5:01;");
        EDGES.due("kept(0)", x.kept(0), 2);
        x.peel(1, 0);
        EDGES.due("parts again", Edges.shown(x), "5:0;");
        EDGES.due("kept(0)", x.kept(0), 1);
    }

    private static void notPeeled() {
        EDGES.sentence("promise 12", "NONE: it isn't EVEN, no such SLOT, RULE (what was kept stays)");
        EvenTables x = EDGES.with("1 2;2 1;", "1 2;1 2;", "0 0;0 0;", "");
        for (int round = 0; round < 2; round++) {
            for (int rule = -1; rule <= 4; rule++) {
                EDGES.due("columns unlike: peel(1, " + rule + ")", x.peel(1, rule), NONE);
                EDGES.due("all 0: peel(2, " + rule + ")", x.peel(2, rule), NONE);
                EDGES.due("no table: peel(3, " + rule + ")", x.peel(3, rule), NONE);
            }
            for (int slot : Edges.NO_SLOTS) {
                EDGES.due("peel(" + slot + ", 0)", x.peel(slot, 0), NONE);
            }
            for (int rule : Edges.outside(0, 3)) {
                EDGES.due("peel(0, " + rule + ")", x.peel(0, rule), NONE);
            }
            EDGES.due("what was kept stays", Edges.shown(x), round == 0 ? "" : "1:01;2:10;");
            EDGES.due("kept(0)", x.kept(0), round);
            EDGES.due("kept(1)", x.kept(1), 2 * round);
            EDGES.due("kept(2)", x.kept(2), 3 * round);
            EDGES.due("kept(3)", x.kept(3), 2 * round);
            x.peel(0, 0);
        }
        x.shop(0, 0);
        String shop = Edges.shown(x);
        EDGES.due("no rule", x.peel(0, 4), NONE);
        EDGES.due("a shop that was kept stays", Edges.shown(x), shop);
        EDGES.due("kept(0)", x.kept(0), 2);
    }

    private static void partsOfRows() {
        EDGES.sentence("promise 13", "Of PART k of what is kept the column of a row (of a SHOP: of its 2 n rows)");
        EvenTables x = EDGES.with(Edges.slope(8, "1", "1"), "2 1;1 0;");
        x.peel(0, 0);
        for (int k = 0; k < 8; k++) {
            for (int row = 0; row < 8; row++) {
                EDGES.due("part(" + k + ", " + row + ")", x.part(k, row), k ^ row);
            }
        }
        x.shop(1, 0);
        int[][] shop = {{0, 3, 2, 1}, {1, 0, 3, 2}};
        for (int k = 0; k < 2; k++) {
            for (int row = 0; row < 4; row++) {
                EDGES.due("of a shop: part(" + k + ", " + row + ")", x.part(k, row), shop[k][row]);
            }
        }
    }

    private static void noSuchParts() {
        EDGES.sentence("promise 13", "NONE: there is none such");
        EvenTables x = EDGES.with("1 2;2 1;", "2 1;1 0;", "5;");
        EDGES.due("nothing is kept", x.part(0, 0), NONE);
        x.peel(0, 0);
        for (int i : Edges.outside(0, 1)) {
            EDGES.due("part(" + i + ", 0)", x.part(i, 0), NONE);
            EDGES.due("part(0, " + i + ")", x.part(0, i), NONE);
            EDGES.due("part(1, " + i + ")", x.part(1, i), NONE);
        }
        x.shop(1, 0);
        for (int i : Edges.outside(0, 3)) {
            EDGES.due("of a shop: part(0, " + i + ")", x.part(0, i), NONE);
        }
        for (int i : Edges.outside(0, 1)) {
            EDGES.due("of a shop: part(" + i + ", 0)", x.part(i, 0), NONE);
        }
        x.peel(2, 0);
        EDGES.due("one part of one row", x.part(0, 0), 0);
        for (int i : Edges.outside(0, 0)) {
            EDGES.due("one part: part(" + i + ", 0)", x.part(i, 0), NONE);
            EDGES.due("one row: part(0, " + i + ")", x.part(0, i), NONE);
        }
    }

    private static void weights() {
        EDGES.sentence("promise 14", "0 its WEIGHT, 1, 2 that by MARGIN (of a SHOP by LENGTH) in least terms, above and below");
        EvenTables x = EDGES.with("1 3;3 1;", "4 0;0 6;", "5;", Edges.slope(8, "1", "1"));
        x.peel(0, 0);
        int[][] due = {{1, 1, 4}, {3, 3, 4}};
        for (int k = 0; k < 2; k++) {
            for (int what = 0; what < 3; what++) {
                EDGES.due("weight(" + k + ", " + what + ")", x.weight(k, what), due[k][what]);
            }
        }
        x.peel(2, 0);
        EDGES.due("all of it: weight(0, 0)", x.weight(0, 0), 5);
        EDGES.due("all of it: weight(0, 1)", x.weight(0, 1), 1);
        EDGES.due("all of it: weight(0, 2)", x.weight(0, 2), 1);
        x.peel(3, 0);
        EDGES.due("an 8th: weight(7, 1)", x.weight(7, 1), 1);
        EDGES.due("an 8th: weight(7, 2)", x.weight(7, 2), 8);
        // Hours 4 and 6: two thirds of LENGTH 6, then one third; a MARGIN there isn't.
        x.shop(1, 0);
        int[][] shop = {{4, 2, 3}, {2, 1, 3}};
        for (int k = 0; k < 2; k++) {
            for (int what = 0; what < 3; what++) {
                EDGES.due("of a shop: weight(" + k + ", " + what + ")", x.weight(k, what), shop[k][what]);
            }
        }
    }

    private static void noSuchWeights() {
        EDGES.sentence("promise 14", "NONE: there is none such, or another what");
        EvenTables x = EDGES.with("1 3;3 1;");
        for (int what = -1; what <= 3; what++) {
            EDGES.due("nothing is kept: weight(0, " + what + ")", x.weight(0, what), NONE);
        }
        x.peel(0, 0);
        for (int k : Edges.outside(0, 1)) {
            for (int what = 0; what < 3; what++) {
                EDGES.due("weight(" + k + ", " + what + ")", x.weight(k, what), NONE);
            }
        }
        for (int what : Edges.outside(0, 2)) {
            EDGES.due("weight(0, " + what + ")", x.weight(0, what), NONE);
            EDGES.due("weight(1, " + what + ")", x.weight(1, what), NONE);
        }
    }

    private static void draws() {
        EDGES.sentence("promise 15", "The PART that a number r draws: WEIGHTS one behind the other, from 0 on");
        EvenTables x = EDGES.with("4 0 3;3 2 2;0 5 2;", Edges.slope(8, "1", "1"), "4 0;0 6;", "1;");
        x.peel(0, 0);
        int[] due = {0, 0, 1, 1, 2, 2, 2};
        for (int r = 0; r < 7; r++) {
            EDGES.due("draw(" + r + ")", x.draw(r), due[r]);
        }
        x.peel(1, 0);
        for (int r = 0; r < 8; r++) {
            EDGES.due("draw(" + r + ") of eight", x.draw(r), r);
        }
        x.shop(2, 0);
        int[] shop = {0, 0, 0, 0, 1, 1};
        for (int r = 0; r < 6; r++) {
            EDGES.due("draw(" + r + ") of a shop", x.draw(r), shop[r]);
        }
        x.peel(3, 0);
        EDGES.due("draw(0) of one", x.draw(0), 0);
        Great.tell(x, 0, new long[][] {{Edges.MOST_CELL, 1}, {1, Edges.MOST_CELL}});
        x.peel(0, 0);
        EDGES.due("draw(99999998)", x.draw(99999998), 0);
        EDGES.due("draw(99999999)", x.draw(99999999), 1);
        EDGES.due("draw(100000000)", x.draw(100000000), NONE);
    }

    private static void notDrawn() {
        EDGES.sentence("promise 15", "NONE: r is below 0, MARGIN at least, or nothing is kept");
        EvenTables x = EDGES.with("1 3;3 1;", "4 0;0 6;", "1;");
        for (int r = -1; r <= 1; r++) {
            EDGES.due("nothing is kept: draw(" + r + ")", x.draw(r), NONE);
        }
        x.peel(0, 0);
        for (int r : Edges.outside(0, 3)) {
            EDGES.due("draw(" + r + ")", x.draw(r), NONE);
        }
        x.shop(1, 0);
        for (int r : Edges.outside(0, 5)) {
            EDGES.due("of a shop, by LENGTH: draw(" + r + ")", x.draw(r), NONE);
        }
        x.peel(2, 0);
        for (int r : Edges.outside(0, 0)) {
            EDGES.due("of one: draw(" + r + ")", x.draw(r), NONE);
        }
    }

    private static void joints() {
        EDGES.sentence("promise 16", "How likely it is (WEIGHTS by MARGIN, in least terms, what 0 above, 1 below) that row i has column j and row k column l");
        EvenTables x = EDGES.with("1 3;3 1;", "5;", Edges.slope(8, "1", "1"), "4 0;0 6;");
        int[][] due = {{0, 0, 1, 1, 1, 4}, {0, 1, 1, 0, 3, 4}, {0, 1, 0, 1, 3, 4}, {1, 1, 0, 0, 1, 4},
            {0, 0, 1, 0, 0, 1}, {0, 0, 0, 1, 0, 1}, {1, 0, 0, 0, 0, 1}, {1, 1, 1, 1, 1, 4}};
        x.peel(0, 0);
        for (int[] d : due) {
            joint(x, d);
        }
        x.peel(1, 0);
        joint(x, new int[] {0, 0, 0, 0, 1, 1});
        x.peel(2, 0);
        joint(x, new int[] {7, 0, 0, 7, 1, 8});
        joint(x, new int[] {7, 7, 0, 7, 0, 1});
        // Pieces 4 : 0123 and 2 : 2103.
        x.shop(3, 0);
        joint(x, new int[] {0, 0, 2, 2, 2, 3});
        joint(x, new int[] {3, 3, 1, 1, 1, 1});
        joint(x, new int[] {2, 0, 0, 2, 1, 3});
        joint(x, new int[] {2, 3, 3, 3, 0, 1});
    }

    private static void joint(EvenTables x, int[] d) {
        String call = "joint(" + d[0] + ", " + d[1] + ", " + d[2] + ", " + d[3];
        EDGES.due(call + ", 0)", x.joint(d[0], d[1], d[2], d[3], 0), d[4]);
        EDGES.due(call + ", 1)", x.joint(d[0], d[1], d[2], d[3], 1), d[5]);
    }

    private static void noSuchJoints() {
        EDGES.sentence("promise 16", "NONE: nothing is kept, there are none such, or another what");
        EvenTables x = EDGES.with("1 3;3 1;", "4 0;0 6;");
        for (int what = -1; what <= 2; what++) {
            EDGES.due("nothing is kept: joint(0, 0, 0, 0, " + what + ")", x.joint(0, 0, 0, 0, what), NONE);
        }
        for (int rows = 2; rows <= 4; rows += 2) {
            EDGES.due("parts, then a shop", (rows == 2 ? x.peel(0, 0) : x.shop(1, 0)) > 0, true);
            for (int i : Edges.outside(0, rows - 1)) {
                for (int what = 0; what < 2; what++) {
                    EDGES.due("row i " + i, x.joint(i, 0, 0, 0, what), NONE);
                    EDGES.due("column j " + i, x.joint(0, i, 0, 0, what), NONE);
                    EDGES.due("row k " + i, x.joint(0, 0, i, 0, what), NONE);
                    EDGES.due("column l " + i, x.joint(0, 0, 0, i, what), NONE);
                }
            }
            EDGES.due("the last ones", x.joint(rows - 1, rows - 1, rows - 1, rows - 1, 1) > 0, true);
            for (int what : Edges.outside(0, 1)) {
                EDGES.due("joint(0, 0, 0, 0, " + what + ")", x.joint(0, 0, 0, 0, what), NONE);
            }
        }
    }

    private static void bounds() {
        EDGES.sentence("promise 17", "BOUND (what 0): how many CELLS are above 0, less 2 n, and GROUPS, and 1");
        String[] texts = {"1;", "1 0;0 1;", "1 1;1 1;", "2 0 0;0 1 1;0 1 1;", Edges.slope(3, "1", "1"),
            Edges.slope(8, "1", "0"), Edges.slope(8, "1", "1"), Edges.slope(8, "0", "1"), FULL};
        int[] due = {1, 1, 2, 2, 5, 1, 50, 42, 50};
        EvenTables x = new EvenTables();
        for (int i = 0; i < texts.length; i++) {
            Check.tell(x, 3, texts[i]);
            EDGES.due("bound(3, 0) of " + texts[i], x.bound(3, 0), due[i]);
        }
    }

    private static void fewest() {
        EDGES.sentence("promise 17", "FEWEST (1): the least number of PARTS by which whole WEIGHTS above 0 of unlike CHOICES make up all CELLS");
        // The last one: 012, 120, 201 by 1, 2, 3, and 021, 102, 210 by 1, 2, 3: of the first three, or of the last
        // three, one can be done without.
        String[] texts = {"1;", "5/7;", "3 0;0 3;", "0 3;3 0;", "1 1;1 1;", "1 2;2 1;", "0 0 4;0 4 0;4 0 0;", "2 0 0;0 1 1;0 1 1;",
            "1 1 1;1 1 1;1 1 1;", "2 1 1;1 2 1;1 1 2;", "3 2 1;2 2 2;1 2 3;", "7 3 4;4 2 8;3 9 2;", "2 4 6;5 4 3;5 4 3;"};
        int[] due = {1, 1, 1, 1, 2, 2, 1, 2, 3, 3, 4, 4, 5};
        EvenTables x = new EvenTables();
        for (int i = 0; i < texts.length; i++) {
            Check.tell(x, 0, texts[i]);
            EDGES.due("bound(0, 1) of " + texts[i], x.bound(0, 1), due[i]);
        }
        Great.tell(x, 0, new long[][] {{Edges.MOST_CELL, 0, 0}, {0, Edges.MOST_CELL, 0}, {0, 0, Edges.MOST_CELL}});
        EDGES.due("the greatest cells", x.bound(0, 1), 1);
    }

    private static void noSuchBounds() {
        EDGES.sentence("promise 17", "NONE: it isn't EVEN, no such SLOT, n above 3 (of 1), or another what");
        EvenTables x = EDGES.with("1 2;1 2;", "0 0;0 0;", "", Edges.slope(4, "1", "1"));
        for (int what = 0; what < 2; what++) {
            EDGES.due("columns unlike: bound(0, " + what + ")", x.bound(0, what), NONE);
            EDGES.due("all 0: bound(1, " + what + ")", x.bound(1, what), NONE);
            EDGES.due("no table: bound(2, " + what + ")", x.bound(2, what), NONE);
            for (int slot : Edges.NO_SLOTS) {
                EDGES.due("bound(" + slot + ", " + what + ")", x.bound(slot, what), NONE);
            }
        }
        EDGES.due("n 4: bound(3, 0)", x.bound(3, 0), 10);
        EDGES.due("n 4: bound(3, 1)", x.bound(3, 1), NONE);
        Check.tell(x, 0, Edges.slope(8, "1", "0"));
        EDGES.due("n 8: bound(0, 1)", x.bound(0, 1), NONE);
        Check.tell(x, 0, Edges.slope(3, "1", "0"));
        EDGES.due("n 3: bound(0, 1)", x.bound(0, 1), 1);
        for (int what : Edges.outside(0, 1)) {
            EDGES.due("bound(0, " + what + ")", x.bound(0, what), NONE);
        }
    }
}
