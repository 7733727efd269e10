/** The edges of promises 6 to 11, sentence by sentence: what is asked of slots, and tables made of tables. */
public final class Edges06To11Test {
    private static final int NONE = Edges.NONE;
    private static final Edges EDGES = new Edges();
    private static final int MOST = Edges.MOST_CELL;

    public static void main(String[] args) {
        lookAtNothing();
        lookAtRowsAndBelow();
        lookAtMargins();
        lookAtCellsAbove0();
        lookAtGreatest();
        lookAtGroups();
        lookOutside();
        cells();
        noSuchCells();
        unevenRowsAndColumns();
        evenOnes();
        mixedShares();
        mixedRows();
        mixedInto();
        mixedCells();
        mixedBelows();
        mixedLeastTerms();
        mixedMultiples();
        mixedSums();
        mixedOfNone();
        productsOfNone();
        productsInto();
        productCells();
        productBelows();
        productLeastTerms();
        turned();
        turnedInto();
        notTurned();
        EDGES.finish("Edges06To11Test");
    }

    private static EvenTables one(long cell) {
        EvenTables x = new EvenTables();
        Great.tell(x, 0, new long[][] {{cell}});
        return x;
    }

    private static void lookAtNothing() {
        EDGES.sentence("promise 6", "1 BELOW (0 without a TABLE), 2 MARGIN (NONE: it isn't EVEN), 4 (0 without), 5 (0 without a TABLE)");
        EvenTables x = EDGES.with("1 2;3 4;");
        Check.tell(x, 0, "");
        int[] due = {0, 0, NONE, 0, 0, 0};
        for (int what = 0; what < 6; what++) {
            EDGES.due("a slot that was never filled: look(3, " + what + ")", x.look(3, what), due[what]);
            EDGES.due("a slot that was emptied: look(0, " + what + ")", x.look(0, what), due[what]);
        }
    }

    private static void lookAtRowsAndBelow() {
        EDGES.sentence("promise 6", "what 0 n, 1 BELOW");
        EvenTables x = EDGES.with("0/5;", "1/999999;", Edges.slope(8, "1/999998", "0"), "3;");
        int[][] due = {{1, 1}, {1, 999999}, {8, 999998}, {1, 1}};
        for (int slot = 0; slot < 4; slot++) {
            EDGES.due("look(" + slot + ", 0)", x.look(slot, 0), due[slot][0]);
            EDGES.due("look(" + slot + ", 1)", x.look(slot, 1), due[slot][1]);
        }
    }

    private static void lookAtMargins() {
        EDGES.sentence("promise 6", "2 MARGIN (NONE: it isn't EVEN): all rows and columns together come to the same, above 0");
        String[] texts = {"0;", "1;", "0 0;0 0;", "1 2;2 2;", "1 2;1 2;", "1 1;2 2;", "1 2;2 1;", "2 0 1;1 2 0;0 1 2;", "2 0 1;1 1 1;0 1 2;",
            "2 0 1;1 2 0;1 0 2;", Edges.slope(8, "1", "0"), Edges.slope(8, "0", "0"), Edges.slope(8, "3", "1/2")};
        int[] due = {NONE, 1, NONE, NONE, NONE, NONE, 3, 3, NONE, NONE, 1, NONE, 13};
        EvenTables x = new EvenTables();
        for (int i = 0; i < texts.length; i++) {
            Check.tell(x, 0, texts[i]);
            EDGES.due("look(0, 2) of " + texts[i], x.look(0, 2), due[i]);
        }
        // 99999999 in all 64 cells: the greatest MARGIN there is.
        Check.tell(x, 0, Edges.slope(8, "999999", "999999"));
        Check.tell(x, 1, Edges.slope(8, "99", "99"));
        x.mix(0, 100, 1, 1, 1, 1, 0);
        EDGES.due("the greatest", x.look(0, 2), 799999992);
    }

    private static void lookAtCellsAbove0() {
        EDGES.sentence("promise 6", "3 CELLS above 0");
        EvenTables x = EDGES.with("0;", "1/999999;", Edges.slope(8, "1", "0"), Edges.slope(8, "0", "1"));
        int[] due = {0, 1, 8, 56};
        for (int slot = 0; slot < 4; slot++) {
            EDGES.due("look(" + slot + ", 3)", x.look(slot, 3), due[slot]);
        }
        Check.tell(x, 0, Edges.slope(8, "1", "1"));
        EDGES.due("full", x.look(0, 3), 64);
        Check.tell(x, 0, "0 0;0 1;");
        EDGES.due("none of the table that was there", x.look(0, 3), 1);
    }

    private static void lookAtGreatest() {
        EDGES.sentence("promise 6", "4 the greatest CELL (0 without)");
        EvenTables x = EDGES.with("0 0;0 0;", "9 1;1 2;", "1 1;1 9;", "1 2;9 3;");
        int[] due = {0, 9, 9, 9};
        for (int slot = 0; slot < 4; slot++) {
            EDGES.due("look(" + slot + ", 4)", x.look(slot, 4), due[slot]);
        }
        EDGES.due("99999999", one(MOST).look(0, 4), MOST);
        Check.tell(x, 0, Edges.slope(8, "1", "9"));
        EDGES.due("of eight rows", x.look(0, 4), 9);
        Check.tell(x, 0, "2;");
        EDGES.due("none of the table that was there", x.look(0, 4), 2);
    }

    private static void lookAtGroups() {
        EDGES.sentence("promise 6", "5 GROUPS (those of one row or column alone, too)");
        // The stairs hang together only from step to step, whichever row one begins with.
        String stairs = "0 0 0 0 0 0 1 1;1 1 0 0 0 0 0 0;0 0 1 1 0 0 0 0;0 0 0 0 1 1 0 0;"
            + "0 1 1 0 0 0 0 0;0 0 0 1 1 0 0 0;0 0 0 0 0 1 1 0;0 0 0 0 0 0 0 1;";
        String[] texts = {"0;", "1;", "0 0;0 0;", "1 0;0 0;", "1 1;0 0;", "1 0;1 0;", "1 0;0 1;", "1 1;1 0;", Edges.slope(8, "0", "0"),
            Edges.slope(8, "1", "0"), Edges.slope(8, "1", "1"), stairs, "0 0 0;0 0 0;0 0 1;", "0 1 0;1 0 1;0 1 0;"};
        int[] due = {2, 1, 4, 3, 2, 2, 2, 1, 16, 8, 1, 1, 5, 2};
        EvenTables x = new EvenTables();
        for (int i = 0; i < texts.length; i++) {
            Check.tell(x, 0, texts[i]);
            EDGES.due("look(0, 5) of " + texts[i], x.look(0, 5), due[i]);
        }
    }

    private static void lookOutside() {
        EDGES.sentence("promise 6", "-2: there is no such SLOT, another what");
        EvenTables x = EDGES.with("1;", "1;", "1;", "1;");
        for (int slot : Edges.NO_SLOTS) {
            for (int what = -1; what <= 6; what++) {
                EDGES.due("look(" + slot + ", " + what + ")", x.look(slot, what), -2);
            }
        }
        Check.tell(x, 3, "");
        for (int what : Edges.outside(0, 5)) {
            EDGES.due("look(0, " + what + ")", x.look(0, what), -2);
            EDGES.due("without a table: look(3, " + what + ")", x.look(3, what), -2);
        }
    }

    private static void cells() {
        EDGES.sentence("promise 7", "A CELL");
        EvenTables x = new EvenTables();
        StringBuilder text = new StringBuilder();
        for (int i = 0; i < 64; i++) {
            text.append(i).append(i % 8 == 7 ? ";" : " ");
        }
        EDGES.due("table(3)", Check.tell(x, 3, text.toString()), 8);
        for (int i = 0; i < 64; i++) {
            EDGES.due("cell(3, " + i / 8 + ", " + i % 8 + ")", x.cell(3, i / 8, i % 8), i);
        }
        EDGES.due("the greatest", one(MOST).cell(0, 0, 0), MOST);
    }

    private static void noSuchCells() {
        EDGES.sentence("promise 7", "NONE: there is none such");
        EvenTables x = EDGES.with(Edges.slope(8, "1", "1"), "5;", "", "1 2;3 4;");
        for (int i : Edges.outside(0, 7)) {
            EDGES.due("cell(0, " + i + ", 0)", x.cell(0, i, 0), NONE);
            EDGES.due("cell(0, 0, " + i + ")", x.cell(0, 0, i), NONE);
            EDGES.due("cell(0, 7, " + i + ")", x.cell(0, 7, i), NONE);
        }
        for (int i : Edges.outside(0, 0)) {
            EDGES.due("cell(1, " + i + ", 0)", x.cell(1, i, 0), NONE);
            EDGES.due("cell(1, 0, " + i + ")", x.cell(1, 0, i), NONE);
        }
        EDGES.due("no row of the next table", x.cell(3, 2, 0), NONE);
        EDGES.due("no cell of the next row", x.cell(3, 0, 2), NONE);
        EDGES.due("no table", x.cell(2, 0, 0), NONE);
        for (int slot : Edges.NO_SLOTS) {
            EDGES.due("cell(" + slot + ", 0, 0)", x.cell(slot, 0, 0), NONE);
        }
    }

    private static void unevenRowsAndColumns() {
        EDGES.sentence("promise 8", "The first row (0 on), then column (8 on) that doesn't come to what row 0 comes to");
        String rows = "1 0 0 0 0 0 0 0;0 1 0 0 0 0 0 0;0 0 1 0 0 0 0 0;0 0 0 1 0 0 0 0;0 0 0 0 1 0 0 0;0 0 0 0 0 1 0 0;";
        String[] texts = {"1 2;2 2;", "1 2;1 2;", "2 1;2 1;", "1 1;2 0;", "1 1 1;1 1 1;1 1 2;", "1 1 1;1 2 1;1 1 2;", "2 1 0;2 0 1;0 1 2;",
            "2 2 0;2 0 2;0 1 3;", "1 2 0;1 0 2;1 0 2;", "0 0;0 1;", "0 0;1 0;", rows + "0 0 0 0 0 0 1 0;0 0 0 0 0 0 0 2;",
            rows + "0 0 0 0 0 0 1 0;0 0 0 0 0 0 1 0;", rows + "0 0 0 0 0 0 0 2;0 0 0 0 0 0 1 0;"};
        int[] due = {1, 8, 8, 8, 2, 1, 8, 9, 9, 1, 1, 7, 14, 6};
        EvenTables x = new EvenTables();
        for (int i = 0; i < texts.length; i++) {
            Check.tell(x, 0, texts[i]);
            EDGES.due("uneven(0) of " + texts[i], x.uneven(0), due[i]);
        }
    }

    private static void evenOnes() {
        EDGES.sentence("promise 8", "NONE: all do, there is no TABLE, no such SLOT");
        EvenTables x = EDGES.with("1 2;2 1;", "0 0;0 0;", "5;", Edges.slope(8, "7", "1/2"));
        for (int slot = 0; slot < 4; slot++) {
            EDGES.due("all do: uneven(" + slot + ")", x.uneven(slot), NONE);
        }
        Check.tell(x, 0, "1 2;3 4;");
        Check.tell(x, 0, "");
        EDGES.due("no table", x.uneven(0), NONE);
        for (int slot : Edges.NO_SLOTS) {
            EDGES.due("uneven(" + slot + ")", x.uneven(slot), NONE);
        }
    }

    private static void mixedShares() {
        EDGES.sentence("promise 9", "(x, u 0 .. 9999, y, v 1 .. 9999)");
        EvenTables x = EDGES.with("6;", "35;");
        int[][] taken = {{0, 1, 1, 1}, {1, 1, 0, 1}, {0, 9999, 1, 1}, {9999, 9999, 1, 1}, {1, 1, 9999, 9999}, {9998, 9998, 9999, 9999},
            {1, 1, 9998, 9998}, {1, 2, 1, 5}, {9999, 1, 0, 1}, {0, 1, 9999, 1}, {0, 1, 0, 1}, {1, 9999, 0, 1}, {0, 1, 1, 9999}};
        String[] due = {"1: 35", "1: 6", "1: 35", "1: 41", "1: 41", "1: 41", "1: 41", "1: 10", "1: 59994", "1: 349965", "1: 0", "3333: 2", "9999: 35"};
        for (int i = 0; i < taken.length; i++) {
            int[] t = taken[i];
            String call = "mix(0, " + t[0] + ", " + t[1] + ", 1, " + t[2] + ", " + t[3] + ", 2)";
            EDGES.due(call, x.mix(0, t[0], t[1], 1, t[2], t[3], 2), true);
            EDGES.due(call, Edges.slot(x, 2), "1 over " + due[i]);
        }
        String stays = Edges.slot(x, 2);
        for (int wrong : Edges.outside(0, 9999)) {
            EDGES.due("x " + wrong, x.mix(0, wrong, 1, 1, 1, 1, 2), false);
            EDGES.due("u " + wrong, x.mix(0, 1, 1, 1, wrong, 1, 2), false);
        }
        for (int wrong : Edges.outside(1, 9999)) {
            EDGES.due("y " + wrong, x.mix(0, 1, wrong, 1, 1, 1, 2), false);
            EDGES.due("y " + wrong + ", x 0", x.mix(0, 0, wrong, 1, 1, 1, 2), false);
            EDGES.due("v " + wrong, x.mix(0, 1, 1, 1, 1, wrong, 2), false);
            EDGES.due("v " + wrong + ", u 0", x.mix(0, 1, 1, 1, 0, wrong, 2), false);
        }
        EDGES.due("slot 2 stays", Edges.slot(x, 2), stays);
    }

    private static void mixedRows() {
        EDGES.sentence("promise 9", "another one of as many rows; false: n unlike");
        EvenTables x = EDGES.with("1;", "1 2;3 4;", Edges.slope(8, "1", "0"), Edges.slope(7, "1", "0"));
        EDGES.due("1 and 2", x.mix(0, 1, 1, 1, 1, 1, 1), false);
        EDGES.due("2 and 1", x.mix(1, 1, 1, 0, 1, 1, 1), false);
        EDGES.due("2 and 1, 0 times", x.mix(1, 1, 1, 0, 0, 1, 1), false);
        EDGES.due("8 and 7", x.mix(2, 1, 1, 3, 1, 1, 1), false);
        EDGES.due("7 and 8", x.mix(3, 1, 1, 2, 1, 1, 1), false);
        EDGES.due("slot 1 stays", Edges.slot(x, 1), "2 over 1: 1 2 3 4");
        EDGES.due("1 and 1", x.mix(0, 1, 1, 0, 1, 1, 1), true);
        EDGES.due("slot 1", Edges.slot(x, 1), "1 over 1: 2");
        EDGES.due("8 and 8", x.mix(2, 1, 2, 2, 1, 3, 1), true);
        EDGES.due("look(1, 0)", x.look(1, 0), 8);
        EDGES.due("the last cell", x.cell(1, 7, 7), 5);
        EDGES.due("look(1, 1)", x.look(1, 1), 6);
    }

    private static void mixedInto() {
        EDGES.sentence("promise 9", "MADE into a SLOT: true");
        for (int into = 0; into < 4; into++) {
            EvenTables x = EDGES.with("1 2;3 4;", "1/2 0;0 1/3;", "7;");
            EDGES.due("mix into " + into, x.mix(0, 1, 1, 1, 2, 1, into), true);
            EDGES.due("slot " + into, Edges.slot(x, into), "2 over 3: 6 6 9 14");
            String[] others = {"2 over 1: 1 2 3 4", "2 over 6: 3 0 0 2", "1 over 1: 7", "0 over 0:"};
            for (int other = 0; other < 4; other++) {
                if (other != into) {
                    EDGES.due("slot " + other + " stays", Edges.slot(x, other), others[other]);
                }
            }
        }
        EvenTables x = EDGES.with("1 2;3 4;");
        EDGES.due("all in one slot", x.mix(0, 1, 2, 0, 1, 3, 0), true);
        EDGES.due("slot 0", Edges.slot(x, 0), "2 over 6: 5 10 15 20");
    }

    private static void mixedCells() {
        EDGES.sentence("promise 9", "false: it is refused (CELLS beyond their bounds)");
        EvenTables x = one(MOST - 1);
        Check.tell(x, 1, "1;");
        Check.tell(x, 2, "2;");
        EDGES.due("99999998 and 1", x.mix(0, 1, 1, 1, 1, 1, 3), true);
        EDGES.due("slot 3", Edges.slot(x, 3), "1 over 1: 99999999");
        EDGES.due("99999998 and 2", x.mix(0, 1, 1, 2, 1, 1, 3), false);
        EDGES.due("2 and 99999998", x.mix(2, 1, 1, 0, 1, 1, 3), false);
        EDGES.due("slot 3 stays", Edges.slot(x, 3), "1 over 1: 99999999");
        EDGES.due("into itself", x.mix(0, 2, 1, 1, 1, 1, 0), false);
        EDGES.due("slot 0 stays", Edges.slot(x, 0), "1 over 1: 99999998");
        EDGES.due("a half: 99999997 by 2", x.mix(0, 1, 1, 1, 1, 2, 3), false);
        EDGES.due("half of it and a half: 99999999 by 2", x.mix(0, 1, 2, 1, 1, 2, 3), true);
        EDGES.due("slot 3", Edges.slot(x, 3), "1 over 2: 99999999");
        // Only one cell of a great table is beyond, and it is the last one.
        Check.tell(x, 0, "0 0 0 0 0 0 0 0;".repeat(7) + "0 0 0 0 0 0 0 999999;");
        EDGES.due("100 times 999999", x.mix(0, 100, 1, 0, 0, 1, 1), true);
        EDGES.due("101 times 999999", x.mix(0, 101, 1, 0, 0, 1, 1), false);
        EDGES.due("the last cell stays", x.cell(1, 7, 7), 99999900);
    }

    private static void mixedBelows() {
        EDGES.sentence("promise 9", "false: it is refused (BELOW beyond its bounds)");
        EvenTables x = EDGES.with("1/999;", "1/1000;", "1/499999;");
        EDGES.due("999 times 1001", x.mix(0, 1, 1001, 0, 0, 1, 3), true);
        EDGES.due("slot 3", Edges.slot(x, 3), "1 over 999999: 1");
        EDGES.due("2 times 499999", x.mix(2, 1, 2, 2, 0, 1, 3), true);
        EDGES.due("slot 3", Edges.slot(x, 3), "1 over 999998: 1");
        EDGES.due("1000 times 1000", x.mix(1, 1, 1000, 1, 0, 1, 3), false);
        EDGES.due("of two, 1000 times 999 and 1000", x.mix(1, 1, 1000, 0, 1, 1000, 3), false);
        EDGES.due("slot 3 stays", Edges.slot(x, 3), "1 over 999998: 1");
    }

    private static void mixedLeastTerms() {
        EDGES.sentence("promise 9, terms", "MADE of TABLES is exact, then in least terms; refused, if CELLS or BELOW would be beyond their bounds then");
        EvenTables x = EDGES.with("1/3 1/6;1/2 0;", "2/3 5/6;1/2 1;", "999999 0;0 1/1;");
        EDGES.due("thirds and halves come to whole numbers", x.mix(0, 1, 1, 1, 1, 1, 3), true);
        EDGES.due("slot 3", Edges.slot(x, 3), "2 over 1: 1 1 1 1");
        EDGES.due("all 0", x.mix(0, 0, 9999, 1, 0, 9998, 3), true);
        EDGES.due("slot 3", Edges.slot(x, 3), "2 over 1: 0 0 0 0");
        EDGES.due("9998 by 9999 and 1 by 9999", x.mix(2, 9998, 9999, 2, 1, 9999, 3), true);
        EDGES.due("slot 3", Edges.slot(x, 3), "2 over 1: 999999 0 0 1");
        EDGES.due("6 by 4", x.mix(0, 6, 4, 0, 0, 1, 3), true);
        EDGES.due("slot 3", Edges.slot(x, 3), "2 over 4: 2 1 3 0");
    }

    private static void mixedMultiples() {
        EDGES.sentence("promise 9", "also if the least common multiple of y times the one BELOW and v times the other one is above 1000000000");
        EvenTables x = EDGES.with("1/333667;", "1/125000;", "1/999001;");
        EDGES.due("999999999", x.mix(0, 2997, 2997, 0, 0, 1, 3), true);
        EDGES.due("slot 3", Edges.slot(x, 3), "1 over 333667: 1");
        EDGES.due("1000000000", x.mix(1, 8000, 8000, 1, 0, 1, 3), true);
        EDGES.due("slot 3", Edges.slot(x, 3), "1 over 125000: 1");
        EDGES.due("1000000001", x.mix(2, 1001, 1001, 2, 0, 1, 3), false);
        EDGES.due("1000000001 of the other one", x.mix(2, 0, 1, 2, 1001, 1001, 3), false);
        EDGES.due("1000000001 of none", x.mix(2, 0, 1001, 2, 0, 1, 3), false);
        EDGES.due("slot 3 stays", Edges.slot(x, 3), "1 over 125000: 1");
        // 512 and 1953125 have no divisor together; 513 and it neither.
        Check.tell(x, 0, "1/3125;");
        Check.tell(x, 1, "1;");
        EDGES.due("1000000000 of two", x.mix(0, 625, 625, 1, 512, 512, 3), true);
        EDGES.due("slot 3", Edges.slot(x, 3), "1 over 3125: 3126");
        EDGES.due("1001953125 of two", x.mix(0, 625, 625, 1, 513, 513, 3), false);
        EDGES.due("the same one twice is no more", x.mix(0, 625, 625, 0, 625, 625, 3), true);
        EDGES.due("slot 3", Edges.slot(x, 3), "1 over 3125: 2");
        EDGES.due("999001 times 9999, twice", x.mix(2, 9999, 9999, 2, 9999, 9999, 3), false);
        EDGES.due("slot 3 stays", Edges.slot(x, 3), "1 over 3125: 2");
    }

    private static void mixedSums() {
        EDGES.sentence("promise 9", "or a CELL over it above 1000000000000000");
        // Over 12744317, which is 1147 times 11111: 78466347.
        EvenTables x = one(78466347);
        Check.tell(x, 1, "1/11111;");
        EDGES.due("999999999999999", x.mix(0, 1, 1, 1, 0, 1147, 2), true);
        EDGES.due("slot 2", Edges.slot(x, 2), "1 over 1: 78466347");
        // Over 12800000, which is 4096 times 3125: 78125000.
        x = one(78125000);
        Check.tell(x, 1, "1/3125;");
        EDGES.due("1000000000000000", x.mix(0, 1, 1, 1, 0, 4096, 2), true);
        EDGES.due("the other way", x.mix(1, 0, 4096, 0, 1, 1, 2), true);
        EDGES.due("slot 2", Edges.slot(x, 2), "1 over 1: 78125000");
        // Over 19645651, which is 2161 times 9091: 50901851.
        x = one(50901851);
        Check.tell(x, 1, "1/9091;");
        EDGES.due("1000000000000001", x.mix(0, 1, 1, 1, 0, 2161, 0), false);
        EDGES.due("the other way", x.mix(1, 0, 2161, 0, 1, 1, 0), false);
        EDGES.due("slot 0 stays", Edges.slot(x, 0), "1 over 1: 50901851");
        mixedSumsOfTwo();
    }

    private static void mixedSumsOfTwo() {
        // 78124999 and 1 over 12800000 come to the bound; 78125000 and 1 are beyond it, though each part alone is not.
        EvenTables x = one(78124999);
        Check.tell(x, 1, "4096/3125;");
        EDGES.due("both together 1000000000000000", x.mix(0, 1, 1, 1, 3125, 4096, 2), true);
        EDGES.due("slot 2", Edges.slot(x, 2), "1 over 1: 78125000");
        x = one(78125000);
        Check.tell(x, 1, "4096/3125;");
        EDGES.due("both together beyond", x.mix(0, 1, 1, 1, 3125, 4096, 2), false);
        // 9999 times 99999999 times 1000000 would leave the longs, were it not for this bound.
        x = one(MOST);
        Check.tell(x, 1, "1/999983;");
        EDGES.due("far beyond", x.mix(0, 9999, 1, 1, 0, 1000, 2), false);
        EDGES.due("far beyond, the other way", x.mix(1, 0, 1000, 0, 9999, 1, 2), false);
        EDGES.due("both far beyond", x.mix(0, 9999, 1, 0, 9999, 1, 2), false);
        // One cell alone is far beyond, behind one that could be made.
        Great.tell(x, 0, new long[][] {{0, MOST}, {0, 0}});
        Check.tell(x, 1, "1/999983 0;0 0;");
        EDGES.due("one cell far beyond", x.mix(0, 9999, 1, 1, 1, 1, 2), false);
        EDGES.due("one cell far beyond, the other way", x.mix(1, 1, 1, 0, 9999, 1, 2), false);
    }

    private static void mixedOfNone() {
        EDGES.sentence("promise 9", "false: there are none such, n 0");
        EvenTables x = EDGES.with("1;", "2;", "3;", "");
        EDGES.due("no table", x.mix(3, 1, 1, 0, 1, 1, 2), false);
        EDGES.due("no other table", x.mix(0, 1, 1, 3, 1, 1, 2), false);
        EDGES.due("none at all", x.mix(3, 1, 1, 3, 1, 1, 2), false);
        for (int slot : Edges.NO_SLOTS) {
            EDGES.due("slot " + slot, x.mix(slot, 1, 1, 1, 1, 1, 2), false);
            EDGES.due("other " + slot, x.mix(0, 1, 1, slot, 1, 1, 2), false);
            EDGES.due("into " + slot, x.mix(0, 1, 1, 1, 1, 1, slot), false);
        }
        String[] due = {"1 over 1: 1", "1 over 1: 2", "1 over 1: 3", "0 over 0:"};
        for (int slot = 0; slot < 4; slot++) {
            EDGES.due("slot " + slot + " stays", Edges.slot(x, slot), due[slot]);
        }
        EDGES.due("slots 0 and 3 are such", x.mix(0, 1, 1, 0, 1, 1, 3) && x.mix(3, 1, 1, 3, 1, 1, 0), true);
        EDGES.due("slot 0", Edges.slot(x, 0), "1 over 1: 4");
    }

    private static void productsOfNone() {
        EDGES.sentence("promise 10", "false likewise (there are none such, n unlike or 0)");
        EvenTables x = EDGES.with("2;", "1 2;3 4;", "3;", "");
        EDGES.due("1 and 2", x.times(0, 1, 2), false);
        EDGES.due("2 and 1", x.times(1, 0, 2), false);
        EDGES.due("no table", x.times(3, 0, 2), false);
        EDGES.due("no other table", x.times(0, 3, 2), false);
        EDGES.due("none at all", x.times(3, 3, 2), false);
        for (int slot : Edges.NO_SLOTS) {
            EDGES.due("slot " + slot, x.times(slot, 0, 2), false);
            EDGES.due("other " + slot, x.times(0, slot, 2), false);
            EDGES.due("into " + slot, x.times(0, 0, slot), false);
        }
        String[] due = {"1 over 1: 2", "2 over 1: 1 2 3 4", "1 over 1: 3", "0 over 0:"};
        for (int slot = 0; slot < 4; slot++) {
            EDGES.due("slot " + slot + " stays", Edges.slot(x, slot), due[slot]);
        }
    }

    private static void productsInto() {
        EDGES.sentence("promise 10", "rows of the first by columns of the other one, MADE into a SLOT: true");
        for (int into = 0; into < 4; into++) {
            EvenTables x = EDGES.with("1 2;3 4;", "1/2 0;1 1/3;", "7;");
            EDGES.due("times into " + into, x.times(0, 1, into), true);
            EDGES.due("slot " + into, Edges.slot(x, into), "2 over 6: 15 4 33 8");
        }
        EvenTables x = EDGES.with("1 2;3 4;", Edges.slope(8, "1", "1"));
        EDGES.due("all in one slot", x.times(0, 0, 0), true);
        EDGES.due("slot 0", Edges.slot(x, 0), "2 over 1: 7 10 15 22");
        EDGES.due("8 and 8", x.times(1, 1, 0), true);
        EDGES.due("slot 0", Edges.slot(x, 0), "8 over 1:" + " 8".repeat(64));
    }

    private static void productCells() {
        EDGES.sentence("promise 10", "false likewise (it is refused: CELLS beyond their bounds)");
        EvenTables x = EDGES.with("9901;", "10100;", "10000;", "310559;");
        // 9901 times 10100 is 100000100.
        EDGES.due("beyond", x.times(0, 1, 0), false);
        EDGES.due("slot 0 stays", Edges.slot(x, 0), "1 over 1: 9901");
        EDGES.due("100000000", x.times(2, 2, 2), false);
        EDGES.due("slot 2 stays", Edges.slot(x, 2), "1 over 1: 10000");
        Check.tell(x, 0, "322;");
        EDGES.due("99999998", x.times(3, 0, 2), true);
        EDGES.due("slot 2", Edges.slot(x, 2), "1 over 1: 99999998");
        Check.tell(x, 0, "101;");
        Check.tell(x, 1, "990099;");
        EDGES.due("99999999", x.times(1, 0, 2), true);
        EDGES.due("slot 2", Edges.slot(x, 2), "1 over 1: 99999999");
        // The sum of eight products is beyond, each alone is not: 8 times 12500000.
        Check.tell(x, 0, Edges.slope(8, "3535", "3535"));
        EDGES.due("8 times 12496225", x.times(0, 0, 1), true);
        EDGES.due("cell(1, 7, 7)", x.cell(1, 7, 7), 99969800);
        Check.tell(x, 0, Edges.slope(8, "3536", "3536"));
        EDGES.due("8 times 12503296", x.times(0, 0, 1), false);
        EDGES.due("cell(1, 7, 7) stays", x.cell(1, 7, 7), 99969800);
    }

    private static void productBelows() {
        EDGES.sentence("promise 10", "false likewise (it is refused: BELOW beyond its bounds)");
        EvenTables x = EDGES.with("1/999;", "1/1001;", "1/1000;");
        EDGES.due("999999", x.times(0, 1, 3), true);
        EDGES.due("slot 3", Edges.slot(x, 3), "1 over 999999: 1");
        EDGES.due("1000000", x.times(2, 2, 3), false);
        EDGES.due("1001000", x.times(1, 2, 3), false);
        EDGES.due("slot 3 stays", Edges.slot(x, 3), "1 over 999999: 1");
        Check.tell(x, 0, "1/2;");
        Check.tell(x, 1, "1/499999;");
        EDGES.due("999998", x.times(0, 1, 3), true);
        EDGES.due("slot 3", Edges.slot(x, 3), "1 over 999998: 1");
    }

    private static void productLeastTerms() {
        EDGES.sentence("promise 10, terms", "MADE of TABLES is exact, then in least terms; refused, if CELLS or BELOW would be beyond their bounds then");
        // 999999 by 1000 times 1000 by 999999, and the like: far beyond the bounds on the way.
        EvenTables x = EDGES.with("999999/1000;", "1000/999999;", "0/1;");
        EDGES.due("999999000 over 999999000", x.times(0, 1, 3), true);
        EDGES.due("slot 3", Edges.slot(x, 3), "1 over 1: 1");
        EDGES.due("times 0", x.times(0, 2, 3), true);
        EDGES.due("slot 3", Edges.slot(x, 3), "1 over 1: 0");
        // mix() has bounds on the way, y and v are told in them; times() has none.
        Check.tell(x, 0, "999999/999998;");
        Check.tell(x, 1, "999998/999999;");
        EDGES.due("999997000002 over itself", x.times(0, 1, 3), true);
        EDGES.due("slot 3", Edges.slot(x, 3), "1 over 1: 1");
        EDGES.due("99 times it, 97 times it", x.mix(0, 99, 1, 0, 0, 1, 0) && x.mix(1, 97, 1, 1, 0, 1, 1), true);
        EDGES.due("9602971191019206 over 999997000002", x.times(0, 1, 3), true);
        EDGES.due("slot 3", Edges.slot(x, 3), "1 over 1: 9603");
        // 99999999 in all cells times 1 over 999999 in all: a sum beyond the ints.
        Check.tell(x, 0, Edges.slope(8, "999999", "999999"));
        Check.tell(x, 1, Edges.slope(8, "99", "99"));
        x.mix(0, 100, 1, 1, 1, 1, 0);
        EDGES.due("8 times 99999999 times 99999999", x.times(0, 0, 3), false);
        Check.tell(x, 1, Edges.slope(8, "1/99", "0"));
        EDGES.due("times a slope of 1 by 99", x.times(0, 1, 3), true);
        EDGES.due("slot 3", Edges.slot(x, 3), "8 over 1:" + " 1010101".repeat(64));
    }

    private static void turned() {
        EDGES.sentence("promise 11", "how 0 as it is, 1 .., 5 column r goes so (r of 4, 5; else it doesn't matter): true");
        EvenTables x = EDGES.with("1/2 2 3;4 5 6;7 8 9;", "5;");
        String[] due = {"1 4 6 8 10 12 14 16 18", "1 8 14 4 10 16 6 12 18", "14 16 18 8 10 12 1 4 6", "6 4 1 12 10 8 18 16 14"};
        for (int how = 0; how < 4; how++) {
            for (int r : new int[] {0, 2, 3, -1, Integer.MIN_VALUE, Integer.MAX_VALUE}) {
                EDGES.due("turn(0, " + how + ", " + r + ", 2)", x.turn(0, how, r, 2), true);
            }
            EDGES.due("how " + how, Edges.slot(x, 2), "3 over 2: " + due[how]);
        }
        String[] rows = {"8 10 12 14 16 18 1 4 6", "1 4 6 14 16 18 8 10 12", due[0]};
        String[] columns = {"4 6 1 10 12 8 16 18 14", "1 6 4 8 12 10 14 18 16", due[0]};
        for (int r = 0; r < 3; r++) {
            EDGES.due("turn(0, 4, " + r + ", 2)", x.turn(0, 4, r, 2), true);
            EDGES.due("row " + r + " goes behind", Edges.slot(x, 2), "3 over 2: " + rows[r]);
            EDGES.due("turn(0, 5, " + r + ", 2)", x.turn(0, 5, r, 2), true);
            EDGES.due("column " + r + " goes behind", Edges.slot(x, 2), "3 over 2: " + columns[r]);
        }
        for (int how = 0; how < 6; how++) {
            EDGES.due("turn(1, " + how + ", 0, 2)", x.turn(1, how, 0, 2), true);
            EDGES.due("one cell alone", Edges.slot(x, 2), "1 over 1: 5");
        }
    }

    private static void turnedInto() {
        EDGES.sentence("promise 11", "A TABLE comes into a SLOT");
        for (int into = 0; into < 4; into++) {
            EvenTables x = EDGES.with("1 2;3 4;", "", "1 2 3;4 5 6;7 8 9;", "5;");
            EDGES.due("turn(0, 1, 0, " + into + ")", x.turn(0, 1, 0, into), true);
            EDGES.due("slot " + into, Edges.slot(x, into), "2 over 1: 1 3 2 4");
        }
        EvenTables x = EDGES.with(Edges.slope(8, "1", "0"));
        EDGES.due("8 rows", x.turn(0, 4, 0, 0), true);
        EDGES.due("the last row", x.cell(0, 7, 0), 1);
        EDGES.due("the first row", x.cell(0, 0, 1), 1);
        EDGES.due("8 columns", x.turn(0, 5, 0, 0), true);
        EDGES.due("look(0, 3)", x.look(0, 3), 8);
        EDGES.due("the slope again", x.cell(0, 0, 0) + x.cell(0, 7, 7), 2);
    }

    private static void notTurned() {
        EDGES.sentence("promise 11", "false: there is no TABLE, no such SLOT, r, how");
        EvenTables x = EDGES.with("1 2;3 4;", "", "5;");
        EDGES.due("no table", x.turn(1, 0, 0, 2), false);
        EDGES.due("no table, into itself", x.turn(1, 4, 0, 1), false);
        for (int slot : Edges.NO_SLOTS) {
            EDGES.due("slot " + slot, x.turn(slot, 0, 0, 2), false);
            EDGES.due("into " + slot, x.turn(0, 0, 0, slot), false);
        }
        for (int r : Edges.outside(0, 1)) {
            EDGES.due("turn(0, 4, " + r + ", 2)", x.turn(0, 4, r, 2), false);
            EDGES.due("turn(0, 5, " + r + ", 2)", x.turn(0, 5, r, 2), false);
        }
        EDGES.due("r of one row", x.turn(2, 4, 1, 2), false);
        for (int how : Edges.outside(0, 5)) {
            EDGES.due("turn(0, " + how + ", 0, 2)", x.turn(0, how, 0, 2), false);
        }
        EDGES.due("slot 0 stays", Edges.slot(x, 0), "2 over 1: 1 2 3 4");
        EDGES.due("slot 1 stays", Edges.slot(x, 1), "0 over 0:");
        EDGES.due("slot 2 stays", Edges.slot(x, 2), "1 over 1: 5");
    }
}
