/** The edges of promises 24 to 28, sentence by sentence: what is sought, rounding, most, mixing, kin. */
public final class Edges24To28Test {
    private static final int NONE = Edges.NONE;
    private static final Edges EDGES = new Edges();

    public static void main(String[] args) {
        soughtOfFew();
        soughtRules();
        soughtAgain();
        noSuchSought();
        roundedCells();
        roundedSums();
        roundedFirst();
        roundedGreat();
        roundedAgain();
        noSuchRounded();
        most();
        mostOfSeveral();
        mostOfShops();
        noSuchMost();
        mixing();
        mixingLongest();
        mixingOfGreatNumbers();
        noMixing();
        kin();
        kinLongest();
        noSuchKin();
        EDGES.finish("Edges24To28Test");
    }

    private static void sought(String text, int parts, int first, int second, int third, int fourth) {
        EvenTables x = EDGES.with(text);
        int[] due = {parts, first, second, third, fourth};
        for (int what = 0; what < 5; what++) {
            EDGES.due("sought(0, " + what + ") of " + text, x.sought(0, what), due[what]);
        }
    }

    private static void soughtOfFew() {
        EDGES.sentence("promise 24", "SOUGHT: how many PARTS (what 0), the four RULES (1 to 4)");
        sought("1;", 1, 0, 0, 0, 0);
        sought("0 5;5 0;", 1, 0, 0, 0, 0);
        sought("1 2;2 1;", 2, 0, 0, 0, 0);
        sought("3 2 1;2 2 2;1 2 3;", 5, 0, 0, 0, 0);
        sought(Edges.slope(4, "1", "0"), 1, 0, 0, 0, 0);
        sought(Edges.slope(4, "1", "1"), 4, 0, 0, 0, 0);
    }

    private static void soughtRules() {
        EDGES.sentence("promise 24, terms", "of all ways that with the fewest PARTS, of several the first (the first RULE the lesser, then the second ..)");
        sought("1 3 3 3;5 1 3 1;3 3 4 0;1 3 0 6;", 5, 0, 0, 0, 1);
        sought("0 5 3 0;4 3 1 0;3 0 2 3;1 0 2 5;", 4, 0, 0, 1, 0);
        sought("5 5 1 7;3 0 12 3;5 9 3 1;5 4 2 7;", 7, 0, 0, 2, 0);
        sought("4 10 0 6;4 4 7 5;8 0 8 4;4 6 5 5;", 6, 0, 0, 3, 0);
        sought("3 1 0 0;0 1 1 2;0 0 3 1;1 2 0 1;", 3, 0, 1, 0, 0);
        sought("0 10 1 4;1 1 10 3;0 4 4 7;14 0 0 1;", 5, 0, 2, 0, 0);
        sought("3 0 10 3;7 2 3 4;0 9 3 4;6 5 0 5;", 6, 0, 3, 1, 0);
        sought("1 2 1 0;2 1 0 1;1 0 2 1;0 1 1 2;", 3, 1, 0, 0, 0);
        sought("5 1 2;1 4 3;2 3 3;", 4, 2, 0, 0, 0);
        sought("2 5 2 5;3 0 5 6;7 2 2 3;2 7 5 0;", 5, 3, 0, 0, 0);
        sought("7 14 0 2;3 2 11 7;7 4 3 9;6 3 9 5;", 7, 0, 1, 1, 2);
        sought("3 2 5 5;3 5 2 5;9 0 3 3;0 8 5 2;", 6, 1, 1, 1, 1);
        sought("4 4 3 3;2 4 6 2;5 3 2 4;3 3 3 5;", 6, 2, 3, 0, 1);
        sought("4 2 4 2;0 4 4 4;6 4 0 2;2 2 4 4;", 4, 3, 1, 0, 0);
        sought("9 6 3 9;6 12 5 4;8 5 14 0;4 4 5 14;", 7, 0, 3, 2, 1);
        sought("12 6 2 6;0 6 7 13;2 7 12 5;12 7 5 2;", 7, 0, 3, 3, 0);
        sought("7 5 10 3;10 3 6 6;8 6 6 5;0 11 3 11;", 6, 1, 3, 1, 0);
        sought("6 6 3 6;5 11 0 5;9 0 10 2;1 4 8 8;", 6, 2, 2, 1, 1);
        sought("2 9 11 2;13 0 3 8;9 6 4 5;0 9 6 9;", 6, 3, 1, 1, 1);
    }

    private static void soughtAgain() {
        EDGES.sentence("promise 24", "SOUGHT (of the TABLE that is in the SLOT)");
        EvenTables x = EDGES.with("5 1 2;1 4 3;2 3 3;", "1;");
        EDGES.due("sought(0, 1)", x.sought(0, 1), 2);
        EDGES.due("sought(0, 1) once more", x.sought(0, 1), 2);
        x.peel(0, 3);
        EDGES.due("peeling doesn't change it", x.sought(0, 0), 4);
        EDGES.due("seeking doesn't change what is kept", x.kept(1), x.peel(0, 3));
        Check.tell(x, 0, "x");
        EDGES.due("after a fault", x.sought(0, 1), 2);
        x.turn(1, 0, 0, 0);
        EDGES.due("another table: sought(0, 0)", x.sought(0, 0), 1);
        EDGES.due("another table: sought(0, 1)", x.sought(0, 1), 0);
        Check.tell(x, 0, "");
        EDGES.due("none any more", x.sought(0, 0), NONE);
    }

    private static void noSuchSought() {
        EDGES.sentence("promise 24", "NONE: it isn't EVEN, no such SLOT, n above 4, or another what");
        EvenTables x = EDGES.with("1 2;1 2;", "0 0;0 0;", "", Edges.slope(5, "1", "0"));
        for (int what = 0; what < 5; what++) {
            EDGES.due("columns unlike: sought(0, " + what + ")", x.sought(0, what), NONE);
            EDGES.due("all 0: sought(1, " + what + ")", x.sought(1, what), NONE);
            EDGES.due("no table: sought(2, " + what + ")", x.sought(2, what), NONE);
            EDGES.due("n 5: sought(3, " + what + ")", x.sought(3, what), NONE);
            for (int slot : Edges.NO_SLOTS) {
                EDGES.due("sought(" + slot + ", " + what + ")", x.sought(slot, what), NONE);
            }
        }
        Check.tell(x, 0, Edges.slope(4, "1", "0"));
        EDGES.due("n 4", x.sought(0, 0), 1);
        Check.tell(x, 1, Edges.slope(8, "1", "0"));
        EDGES.due("n 8", x.sought(1, 0), NONE);
        for (int what : Edges.outside(0, 4)) {
            EDGES.due("sought(0, " + what + ")", x.sought(0, what), NONE);
        }
    }

    private static void rounded(String text, String... rows) {
        rounded(EDGES.with(text), text, rows);
    }

    private static void rounded(EvenTables x, String text, String... rows) {
        for (int row = 0; row < rows.length; row++) {
            StringBuilder got = new StringBuilder();
            for (int column = 0; column < rows.length; column++) {
                got.append(x.rounded(0, row, column)).append(' ');
            }
            EDGES.due("row " + row + " of " + text, got.toString().strip(), rows[row]);
        }
    }

    private static void roundedCells() {
        EDGES.sentence("promise 25, terms", "each CELL by BELOW is cut, or, if it is no whole number, one more than that");
        rounded("0;", "0");
        rounded("7;", "7");
        rounded("999999;", "999999");
        rounded("1/2;", "0");
        rounded("7/2;", "3");
        rounded("999998/999999;", "0");
        rounded("3 4;5 6;", "3 4", "5 6");
        rounded("0 0;0 0;", "0 0", "0 0");
        // A whole number stays, though its row has to come to one more.
        rounded("5 2/3;1/3 4;", "5 0", "1 4");
        rounded("5/2 5/2;5/2 5/2;", "2 3", "3 2");
    }

    private static void roundedSums() {
        EDGES.sentence("promise 25, terms", "what each row, each column and all CELLS together come to is likewise cut, or, if it is no whole number, one more");
        // Rows and columns come to 1 each: no row may come to 0 or 2.
        rounded("1/3 2/3;2/3 1/3;", "0 1", "1 0");
        // Rows of 3/4 and columns of 3/4, all together 3/2: 1 or 2.
        rounded("1/2 1/4;1/4 1/2;", "0 0", "0 1");
        // Rows come to 2/3, so 0 or 1; all together to 4/3, so 0 is too little.
        rounded("1/3 1/3;1/3 1/3;", "0 0", "0 1");
        // All together 1/2: 0 or 1, so all are cut.
        rounded("1/8 1/8;1/8 1/8;", "0 0", "0 0");
        // All together just 1: no less, though every row and column alone could be 0.
        rounded("1/4 1/4;1/4 1/4;", "0 0", "0 1");
        // Row 0 comes to 1, the columns to 2/3 or less; row 1 to a third.
        rounded("1/3 1/3 1/3;1/3 0 0;0 0 0;", "0 0 1", "0 0 0", "0 0 0");
        // Column 0 comes to 1: what row 0 leaves of it, row 1 has to take.
        rounded("2/3 0 0;1/3 1/3 0;0 0 1/3;", "0 0 0", "1 0 0", "0 0 0");
        rounded("1/2 1/3 1/6;1/3 1/3 1/3;1/6 1/3 1/2;", "0 0 1", "0 1 0", "1 0 0");
        // One row alone, then one column alone comes to a whole number.
        rounded("0 1/3 0;2/3 0 1/3;0 1/3 0;", "0 0 0", "0 0 1", "0 0 0");
        rounded("1/2 1/2 0;0 1/2 1/2;0 0 1/2;", "0 1 0", "0 0 1", "0 0 0");
        rounded("0 0 1/3;2/3 0 0;1/3 0 1/3;", "0 0 0", "0 0 0", "1 0 0");
        rounded("0 2/3 0;0 2/3 0;2/3 2/3 0;", "0 0 0", "0 1 0", "0 1 0");
    }

    private static void roundedFirst() {
        EDGES.sentence("promise 25, terms", "of all such ways the first: by rows, then columns, what is cut ahead of what is one more");
        rounded("1/2 1/2;1/2 1/2;", "0 1", "1 0");
        rounded("5/3 1/3;7/2 4;", "1 1", "4 4");
        rounded("2/3 2/3 2/3;2/3 2/3 2/3;2/3 2/3 2/3;", "0 1 1", "1 0 1", "1 1 0");
        rounded(Edges.slope(8, "1/2", "1/2"), "0 0 0 0 1 1 1 1", "0 0 0 0 1 1 1 1", "0 0 0 0 1 1 1 1", "0 0 0 0 1 1 1 1",
            "1 1 1 1 0 0 0 0", "1 1 1 1 0 0 0 0", "1 1 1 1 0 0 0 0", "1 1 1 1 0 0 0 0");
        rounded(Edges.slope(8, "1/8", "1/8"), "0 0 0 0 0 0 0 1", "0 0 0 0 0 0 1 0", "0 0 0 0 0 1 0 0", "0 0 0 0 1 0 0 0",
            "0 0 0 1 0 0 0 0", "0 0 1 0 0 0 0 0", "0 1 0 0 0 0 0 0", "1 0 0 0 0 0 0 0");
        // Rows and columns come to 8/9, all together to 64/9: 7 at least.
        rounded(Edges.slope(8, "1/9", "1/9"), "0 0 0 0 0 0 0 0", "0 0 0 0 0 0 0 1", "0 0 0 0 0 0 1 0", "0 0 0 0 0 1 0 0",
            "0 0 0 0 1 0 0 0", "0 0 0 1 0 0 0 0", "0 0 1 0 0 0 0 0", "0 1 0 0 0 0 0 0");
        // Rows and columns come to 8/7, so 1 or 2, all together to 64/7: 10 at the most.
        rounded(Edges.slope(8, "1/7", "1/7"), "0 0 0 0 0 0 0 1", "0 0 0 0 0 0 0 1", "0 0 0 0 0 0 1 0", "0 0 0 0 0 0 1 0",
            "0 0 0 0 0 1 0 0", "0 0 0 0 1 0 0 0", "0 0 1 1 0 0 0 0", "1 1 0 0 0 0 0 0");
    }

    private static void roundedGreat() {
        EDGES.sentence("promise 25", "What a CELL is in the ROUNDED TABLE (of the greatest numbers)");
        EvenTables x = new EvenTables();
        Great.tell(x, 0, new long[][] {{Edges.MOST_CELL}});
        EDGES.due("99999999 over 1", x.rounded(0, 0, 0), Edges.MOST_CELL);
        x.mix(0, 1, 2, 0, 0, 1, 1);
        EDGES.due("99999999 over 2", x.rounded(1, 0, 0), 49999999);
        // All together come to a bit less than 64, so only one cell may be cut.
        Check.tell(x, 0, Edges.slope(8, "999998", "999998"));
        EDGES.due("over 999999", x.mix(0, 1, 999, 0, 0, 1, 0) && x.mix(0, 1, 1001, 0, 0, 1, 0), true);
        String ones = "1 1 1 1 1 1 1 1";
        rounded(x, "999998 over 999999", "0 1 1 1 1 1 1 1", ones, ones, ones, ones, ones, ones, ones);
    }

    private static void roundedAgain() {
        EDGES.sentence("promise 25", "the ROUNDED TABLE (of the TABLE that is in the SLOT)");
        EvenTables x = EDGES.with("1/2 1/2;1/2 1/2;", "1/3 1/3;1/3 1/3;");
        EDGES.due("rounded(0, 1, 0)", x.rounded(0, 1, 0), 1);
        EDGES.due("rounded(0, 1, 0) once more", x.rounded(0, 1, 0), 1);
        EDGES.due("the slot itself stays", Edges.slot(x, 0), "2 over 2: 1 1 1 1");
        Check.tell(x, 0, "x");
        EDGES.due("after a fault", x.rounded(0, 1, 0), 1);
        x.turn(1, 0, 0, 0);
        EDGES.due("another table: rounded(0, 1, 0)", x.rounded(0, 1, 0), 0);
        EDGES.due("another table: rounded(0, 1, 1)", x.rounded(0, 1, 1), 1);
        // Nothing is left of what was rounded: not of cells that were one more, nor of rows and columns that are gone.
        Check.tell(x, 0, "1/2 1/2;1/2 1/2;");
        rounded(x, "halves", "0 1", "1 0");
        Check.tell(x, 0, "3 4;5 6;");
        rounded(x, "whole numbers", "3 4", "5 6");
        Check.tell(x, 0, Edges.slope(8, "1/2", "1/2"));
        EDGES.due("of eight: rounded(0, 0, 7)", x.rounded(0, 0, 7), 1);
        Check.tell(x, 0, "1/2 1/2;0 0;");
        rounded(x, "two halves", "0 1", "0 0");
    }

    private static void noSuchRounded() {
        EDGES.sentence("promise 25", "NONE: there is none such");
        EvenTables x = EDGES.with("1/2 1/2;1/2 1/2;", "5;", Edges.slope(8, "1/2", "1/2"));
        for (int i : Edges.outside(0, 1)) {
            EDGES.due("rounded(0, " + i + ", 0)", x.rounded(0, i, 0), NONE);
            EDGES.due("rounded(0, 0, " + i + ")", x.rounded(0, 0, i), NONE);
        }
        for (int i : Edges.outside(0, 0)) {
            EDGES.due("rounded(1, " + i + ", 0)", x.rounded(1, i, 0), NONE);
            EDGES.due("rounded(1, 0, " + i + ")", x.rounded(1, 0, i), NONE);
        }
        for (int i : Edges.outside(0, 7)) {
            EDGES.due("rounded(2, " + i + ", 7)", x.rounded(2, i, 7), NONE);
            EDGES.due("rounded(2, 7, " + i + ")", x.rounded(2, 7, i), NONE);
        }
        EDGES.due("rounded(2, 7, 7)", x.rounded(2, 7, 7), 0);
        EDGES.due("no table", x.rounded(3, 0, 0), NONE);
        for (int slot : Edges.NO_SLOTS) {
            EDGES.due("rounded(" + slot + ", 0, 0)", x.rounded(slot, 0, 0), NONE);
        }
    }

    private static void most(EvenTables x, int row, int column, int weight, int columns) {
        EDGES.due("most(" + row + ", 0)", x.most(row, 0), column);
        EDGES.due("most(" + row + ", 1)", x.most(row, 1), weight);
        EDGES.due("most(" + row + ", 2)", x.most(row, 2), columns);
    }

    private static void most() {
        EDGES.sentence("promise 26", "the column that a row has for most WEIGHT together (what 0), that WEIGHT (1), how many columns it ever has (2)");
        EvenTables x = EDGES.with("7;", "4 0 3;3 2 2;0 5 2;", "0 9;9 0;");
        x.peel(0, 0);
        most(x, 0, 0, 7, 1);
        // Row 0 has column 0 in two parts of weight 2, and column 2 in one of weight 3.
        x.peel(1, 0);
        most(x, 0, 0, 4, 2);
        most(x, 1, 0, 3, 3);
        most(x, 2, 1, 5, 2);
        x.peel(2, 0);
        most(x, 0, 1, 9, 1);
        most(x, 1, 0, 9, 1);
        x = EDGES.with("1 1 1 1 1 1 1 2;" + "1 1 1 1 1 1 2 1;" + "1 1 1 1 1 2 1 1;" + "1 1 1 1 2 1 1 1;" + "1 1 1 2 1 1 1 1;"
            + "1 1 2 1 1 1 1 1;" + "1 2 1 1 1 1 1 1;" + "2 1 1 1 1 1 1 1;");
        x.peel(0, 2);
        for (int row = 0; row < 8; row++) {
            most(x, row, 7 - row, 2, 8);
        }
    }

    private static void mostOfSeveral() {
        EDGES.sentence("promise 26", "of several the first");
        EvenTables x = EDGES.with("1 1;1 1;", "1 2 2;2 1 2;2 2 1;", Edges.slope(8, "1", "1"));
        x.peel(0, 0);
        most(x, 0, 0, 1, 2);
        most(x, 1, 0, 1, 2);
        x.peel(1, 3);
        most(x, 0, 1, 2, 3);
        most(x, 1, 0, 2, 3);
        most(x, 2, 0, 2, 3);
        x.peel(2, 0);
        most(x, 0, 0, 1, 8);
        most(x, 7, 0, 1, 8);
    }

    private static void mostOfShops() {
        EDGES.sentence("promise 26", "Of what is kept (of a SHOP, by its 2 n rows)");
        EvenTables x = EDGES.with("4 0;0 6;");
        // 4 : 0123 and 2 : 2103.
        x.shop(0, 0);
        most(x, 0, 0, 4, 2);
        most(x, 1, 1, 6, 1);
        most(x, 2, 2, 4, 2);
        most(x, 3, 3, 6, 1);
    }

    private static void noSuchMost() {
        EDGES.sentence("promise 26", "NONE: nothing is kept, there is no such row, or another what");
        EvenTables x = EDGES.with("1 1;1 1;", "4 0;0 6;", Edges.slope(8, "1", "1"));
        for (int what = -1; what <= 3; what++) {
            EDGES.due("nothing is kept: most(0, " + what + ")", x.most(0, what), NONE);
        }
        int[] last = {1, 3, 7};
        for (int i = 0; i < 3; i++) {
            EDGES.due("kept", (i == 1 ? x.shop(1, 0) : x.peel(i, 0)) > 0, true);
            for (int row : Edges.outside(0, last[i])) {
                for (int what = 0; what < 3; what++) {
                    EDGES.due("most(" + row + ", " + what + ")", x.most(row, what), NONE);
                }
            }
            EDGES.due("the last row", x.most(last[i], 1) > 0, true);
            for (int what : Edges.outside(0, 2)) {
                EDGES.due("most(0, " + what + ")", x.most(0, what), NONE);
            }
        }
    }

    private static void mixing() {
        EDGES.sentence("promise 27", "The least m (1 .. 64) by which the product of m TABLES like that of a SLOT has no CELL 0");
        String[] texts = {"1;", "1/999999;", "1 1;1 1;", "1 1;1 0;", "0 1;1 1;", "1 1 0;0 1 1;1 0 1;", "0 1 1;1 0 1;1 1 0;", "1 1 1;1 0 0;1 0 0;",
            Edges.slope(8, "1", "1"), Edges.slope(8, "0", "1"), Edges.slope(8, "1", "1").replaceFirst("1", "0")};
        int[] due = {1, 1, 1, 2, 2, 2, 2, 2, 1, 2, 2};
        EvenTables x = new EvenTables();
        for (int i = 0; i < texts.length; i++) {
            Check.tell(x, 0, texts[i]);
            EDGES.due("mixing(0) of " + texts[i], x.mixing(0), due[i]);
        }
    }

    /** A ring of n rows, and one way more from its last row to its second: no table of n rows needs more products. */
    private static String ring(int n, boolean shortened) {
        StringBuilder text = new StringBuilder();
        for (int i = 0; i < n * n; i++) {
            boolean next = i % n == (i / n + 1) % n;
            boolean shorter = shortened && i / n == n - 1 && i % n == 1;
            text.append(next || shorter ? "1" : "0").append(i % n == n - 1 ? ";" : " ");
        }
        return text.toString();
    }

    private static void mixingLongest() {
        EDGES.sentence("promise 27", "(1 .. 64): as long as it ever takes");
        EvenTables x = new EvenTables();
        for (int n = 2; n <= 8; n++) {
            Check.tell(x, 0, ring(n, true));
            EDGES.due("mixing(0) of " + n, x.mixing(0), (n - 1) * (n - 1) + 1);
        }
    }

    private static void mixingOfGreatNumbers() {
        EDGES.sentence("promise 27", "(whether they could be MADE or not)");
        EvenTables x = EDGES.with("", "1/999999 1/999999;1/999999 0;");
        long most = Edges.MOST_CELL;
        Great.tell(x, 0, new long[][] {{0, most, 0}, {0, 0, most}, {most, most, 0}});
        EDGES.due("it can't be made", x.times(0, 0, 2), false);
        EDGES.due("mixing(0)", x.mixing(0), 5);
        EDGES.due("it can't be made", x.times(1, 1, 2), false);
        EDGES.due("mixing(1)", x.mixing(1), 2);
    }

    private static void noMixing() {
        EDGES.sentence("promise 27", "NONE: with none, there is no TABLE, no such SLOT");
        EvenTables x = EDGES.with("0;");
        String[] texts = {"0;", "0 0;0 0;", "1 0;0 1;", "0 1;1 0;", "1 1;0 1;", "1 0;1 1;", "0 0;1 1;", "0 1 0;1 0 1;0 1 0;", ring(8, false),
            Edges.slope(8, "1", "0"), "1 1 1;1 1 1;0 0 0;"};
        for (String text : texts) {
            Check.tell(x, 0, text);
            EDGES.due("with none: mixing(0) of " + text, x.mixing(0), NONE);
        }
        Check.tell(x, 0, "1;");
        EDGES.due("mixing(0)", x.mixing(0), 1);
        Check.tell(x, 0, "");
        EDGES.due("no table", x.mixing(0), NONE);
        for (int slot : Edges.NO_SLOTS) {
            EDGES.due("mixing(" + slot + ")", x.mixing(slot), NONE);
        }
    }

    private static void kin(String text, int... due) {
        EvenTables x = EDGES.with(text);
        for (int row = 0; row < due.length; row++) {
            EDGES.due("kin(0, " + row + ") of " + text, x.kin(0, row), due[row]);
        }
    }

    private static void kin() {
        EDGES.sentence("promise 28", "row i comes to row j, if CELL i, j is above 0, or to one that comes to it, and to itself");
        kin("0;", 1);
        kin("5;", 1);
        kin("0 0;0 0;", 1, 2);
        kin("1 0;0 1;", 1, 2);
        kin("0 1;1 0;", 3, 3);
        kin("0 1;0 0;", 1, 2);
        kin("0 0;1 0;", 1, 2);
        kin("0 1/999999 0;1 0 1;0 0 0;", 3, 3, 4);
        kin("0 0 1;0 0 0;1 1 0;", 5, 2, 5);
        kin("1 1 1;0 1 1;0 0 1;", 1, 2, 4);
        kin(Edges.slope(8, "0", "0"), 1, 2, 4, 8, 16, 32, 64, 128);
        kin(Edges.slope(8, "1", "1"), 255, 255, 255, 255, 255, 255, 255, 255);
    }

    private static void kinLongest() {
        EDGES.sentence("promise 28", "those (bits) that row i comes to and that come to it (by all rows there are)");
        kin(ring(8, false), 255, 255, 255, 255, 255, 255, 255, 255);
        // The ring is cut: all rows come to the last one, none comes back.
        kin("0 1 0 0 0 0 0 0;0 0 1 0 0 0 0 0;0 0 0 1 0 0 0 0;0 0 0 0 1 0 0 0;0 0 0 0 0 1 0 0;0 0 0 0 0 0 1 0;0 0 0 0 0 0 0 1;0 0 0 0 0 0 0 0;",
            1, 2, 4, 8, 16, 32, 64, 128);
        // The other way round, so that rows come to rows ahead of them.
        kin("0 0 0 0 0 0 0 1;1 0 0 0 0 0 0 0;0 1 0 0 0 0 0 0;0 0 1 0 0 0 0 0;0 0 0 1 0 0 0 0;0 0 0 0 1 0 0 0;0 0 0 0 0 1 0 0;0 0 0 0 0 0 1 0;",
            255, 255, 255, 255, 255, 255, 255, 255);
    }

    private static void noSuchKin() {
        EDGES.sentence("promise 28", "NONE: there is none such");
        EvenTables x = EDGES.with("1 1;1 1;", Edges.slope(8, "1", "0"), "5;");
        for (int row : Edges.outside(0, 1)) {
            EDGES.due("kin(0, " + row + ")", x.kin(0, row), NONE);
        }
        for (int row : Edges.outside(0, 7)) {
            EDGES.due("kin(1, " + row + ")", x.kin(1, row), NONE);
        }
        for (int row : Edges.outside(0, 0)) {
            EDGES.due("kin(2, " + row + ")", x.kin(2, row), NONE);
        }
        EDGES.due("no table", x.kin(3, 0), NONE);
        for (int slot : Edges.NO_SLOTS) {
            EDGES.due("kin(" + slot + ", 0)", x.kin(slot, 0), NONE);
        }
    }
}
