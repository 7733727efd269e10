import java.util.Arrays;

/** The edges of promises 18 to 23, sentence by sentence: lack, pairings, the best choice, the permanent. */
public final class Edges18To23Test {
    private static final int NONE = Edges.NONE;
    private static final Edges EDGES = new Edges();
    private static final int MOST = Edges.MOST_CELL;
    /** The least numbers L that are none. */
    private static final int[] NO_LEAST = Edges.outside(0, MOST);

    public static void main(String[] args) {
        lackByLeast();
        lackOfNone();
        lackLeastBits();
        lackColumns();
        noSuchLack();
        pairedByLeast();
        firstPairing();
        notPaired();
        waysFromNoneToAll();
        noSuchWays();
        widest();
        noSuchWidest();
        best();
        bestOfSeveral();
        noSuchBest();
        permanents();
        beyondLongs();
        sumsOnTheWay();
        noSuchPermanent();
        EDGES.finish("Edges18To23Test");
    }

    /** A table of one row with the greatest cell there is. */
    private static EvenTables greatest() {
        EvenTables x = new EvenTables();
        Great.tell(x, 0, new long[][] {{MOST}});
        return x;
    }

    private static void lack(EvenTables x, int least, int lack, int rows, int columns) {
        EDGES.due("lack(0, " + least + ", 0)", x.lack(0, least, 0), lack);
        EDGES.due("lack(0, " + least + ", 1)", x.lack(0, least, 1), rows);
        EDGES.due("lack(0, " + least + ", 2)", x.lack(0, least, 2), columns);
    }

    private static void lackByLeast() {
        EDGES.sentence("promise 18, terms", "JOINED by a least number L: a row and a column whose CELL is L at least; By L (0 .. 99999999)");
        EvenTables x = EDGES.with("5;");
        lack(x, 0, 0, 0, 0);
        lack(x, 4, 0, 0, 0);
        lack(x, 5, 0, 0, 0);
        lack(x, 6, 1, 1, 0);
        lack(x, MOST, 1, 1, 0);
        x = greatest();
        lack(x, MOST - 1, 0, 0, 0);
        lack(x, MOST, 0, 0, 0);
        x = EDGES.with("0 0;0 0;");
        lack(x, 0, 0, 0, 0);
        lack(x, 1, 2, 3, 0);
    }

    private static void lackOfNone() {
        EDGES.sentence("promise 18", "the greatest LACK of rows (none, too: 0)");
        lack(EDGES.with(Edges.slope(8, "1", "0")), 1, 0, 0, 0);
        lack(EDGES.with(Edges.slope(8, "1", "1")), 1, 0, 0, 0);
        lack(EDGES.with("0 1;1 0;"), 1, 0, 0, 0);
        lack(EDGES.with("1 1;1 0;"), 1, 0, 0, 0);
        lack(EDGES.with(Edges.slope(8, "0", "0")), 1, 8, 255, 0);
    }

    private static void lackLeastBits() {
        EDGES.sentence("promise 18", "of those with it the set with the least bits (1)");
        lack(EDGES.with("1 0 0;1 0 0;0 1 0;"), 1, 1, 3, 1);
        lack(EDGES.with("0 1 0;1 0 0;1 0 0;"), 1, 1, 6, 1);
        lack(EDGES.with("1 0 0;0 1 0;1 0 0;"), 1, 1, 5, 1);
        lack(EDGES.with("1 1 1;0 0 0;1 1 1;"), 1, 1, 2, 0);
        lack(EDGES.with("1 1 0;1 1 0;1 1 0;"), 1, 1, 7, 3);
        lack(EDGES.with("0 0 0;1 0 0;1 0 0;"), 1, 2, 7, 1);
        lack(EDGES.with("1 1 1 1 1 1 1 1;".repeat(5) + "0 0 0 0 0 0 1 1;".repeat(3)), 1, 1, 224, 192);
        lack(EDGES.with("1 1 1 1 1 1 1 1;".repeat(7) + "0 0 0 0 0 0 0 0;"), 1, 1, 128, 0);
        lack(EDGES.with("0 0 0 0 0 0 0 0;" + "1 1 1 1 1 1 1 1;".repeat(7)), 1, 1, 1, 0);
        lack(EDGES.with("1 0 0 0 0 0 0 0;".repeat(8)), 1, 7, 255, 1);
    }

    private static void lackColumns() {
        EDGES.sentence("promise 18", "the columns these rows are JOINED with, as bits (2)");
        lack(EDGES.with("0 0 1;0 0 1;1 1 0;"), 1, 1, 3, 4);
        lack(EDGES.with("0 1 0 1;0 1 0 0;0 0 0 1;1 1 1 1;"), 1, 1, 7, 10);
        lack(EDGES.with("0 0 0 0 0 0 0 1;".repeat(8)), 1, 7, 255, 128);
        lack(EDGES.with("3 2 1;2 2 2;1 2 3;"), 3, 1, 2, 0);
    }

    private static void noSuchLack() {
        EDGES.sentence("promise 18", "NONE: there is no TABLE, no such SLOT, L, or another what");
        EvenTables x = EDGES.with("0 0;0 0;");
        for (int what = 0; what < 3; what++) {
            EDGES.due("no table: lack(1, 0, " + what + ")", x.lack(1, 0, what), NONE);
            for (int slot : Edges.NO_SLOTS) {
                EDGES.due("lack(" + slot + ", 0, " + what + ")", x.lack(slot, 0, what), NONE);
            }
            for (int least : NO_LEAST) {
                EDGES.due("lack(0, " + least + ", " + what + ")", x.lack(0, least, what), NONE);
            }
        }
        for (int what : Edges.outside(0, 2)) {
            EDGES.due("lack(0, 0, " + what + ")", x.lack(0, 0, what), NONE);
            EDGES.due("lack(0, 1, " + what + ")", x.lack(0, 1, what), NONE);
        }
    }

    private static void pairedByLeast() {
        EDGES.sentence("promise 19", "By L the column of a row in the first PAIRING");
        EvenTables x = EDGES.with("5;", "1 2;2 1;");
        EDGES.due("paired(0, 0, 0)", x.paired(0, 0, 0), 0);
        EDGES.due("paired(0, 4, 0)", x.paired(0, 4, 0), 0);
        EDGES.due("paired(0, 5, 0)", x.paired(0, 5, 0), 0);
        EDGES.due("paired(0, 6, 0)", x.paired(0, 6, 0), NONE);
        EDGES.due("paired(0, 99999999, 0)", x.paired(0, MOST, 0), NONE);
        EDGES.due("paired(1, 1, 0)", x.paired(1, 1, 0), 0);
        EDGES.due("paired(1, 2, 0)", x.paired(1, 2, 0), 1);
        EDGES.due("paired(1, 2, 1)", x.paired(1, 2, 1), 0);
        EDGES.due("paired(1, 3, 1)", x.paired(1, 3, 1), NONE);
        x = greatest();
        EDGES.due("the greatest cell", x.paired(0, MOST, 0), 0);
        EDGES.due("the greatest cell, by 1 less", x.paired(0, MOST - 1, 0), 0);
    }

    private static void firstPairing() {
        EDGES.sentence("promise 19", "in the first PAIRING");
        pairing("0 0 0;0 0 0;0 0 0;", 0, "012");
        pairing("0 1 1;1 1 0;1 0 1;", 1, "102");
        pairing("1 1 1;1 1 0;1 0 0;", 1, "210");
        pairing("1 1 1;1 1 1;0 1 0;", 1, "021");
        pairing(Edges.slope(8, "0", "0"), 0, "01234567");
        pairing(Edges.slope(8, "0", "1"), 1, "10325476");
        // Each row has the columns up to one of its own, so all but one beginning leads nowhere.
        StringBuilder stairs = new StringBuilder();
        for (int row = 0; row < 8; row++) {
            stairs.append("1 ".repeat(8 - row)).append("0 ".repeat(row)).append(';');
        }
        pairing(stairs.toString(), 1, "76543210");
    }

    private static void pairing(String text, int least, String due) {
        EvenTables x = EDGES.with(text);
        for (int row = 0; row < due.length(); row++) {
            EDGES.due("paired(0, " + least + ", " + row + ") of " + text, x.paired(0, least, row), due.charAt(row) - '0');
        }
    }

    private static void notPaired() {
        EDGES.sentence("promise 19", "NONE: there is none, or there are none such");
        EvenTables x = EDGES.with("1 1;0 0;", "1 2;3 4;", "1 1 0;1 1 0;1 1 0;");
        for (int row = 0; row < 2; row++) {
            EDGES.due("there is none: paired(0, 1, " + row + ")", x.paired(0, 1, row), NONE);
            EDGES.due("no table: paired(3, 0, " + row + ")", x.paired(3, 0, row), NONE);
        }
        for (int row = 0; row < 3; row++) {
            EDGES.due("there is none: paired(2, 1, " + row + ")", x.paired(2, 1, row), NONE);
        }
        for (int slot : Edges.NO_SLOTS) {
            EDGES.due("paired(" + slot + ", 0, 0)", x.paired(slot, 0, 0), NONE);
        }
        for (int least : NO_LEAST) {
            EDGES.due("paired(1, " + least + ", 0)", x.paired(1, least, 0), NONE);
        }
        for (int row : Edges.outside(0, 1)) {
            EDGES.due("paired(1, 0, " + row + ")", x.paired(1, 0, row), NONE);
        }
        x = EDGES.with(Edges.slope(8, "1", "1"));
        EDGES.due("the last row", x.paired(0, 1, 7), 7);
        for (int row : Edges.outside(0, 7)) {
            EDGES.due("paired(0, 1, " + row + ")", x.paired(0, 1, row), NONE);
        }
    }

    private static void waysFromNoneToAll() {
        EDGES.sentence("promise 20", "How many PAIRINGS there are by L");
        EvenTables x = EDGES.with("5;", "1 2;2 1;", Edges.slope(8, "0", "0"), Edges.slope(8, "0", "1"));
        int[][] due = {{0, 0, 1}, {0, 4, 1}, {0, 5, 1}, {0, 6, 0}, {0, MOST, 0}, {1, 0, 2}, {1, 1, 2}, {1, 2, 1}, {1, 3, 0},
            {2, 0, 40320}, {2, 1, 0}, {3, 0, 40320}, {3, 1, 14833}, {3, 2, 0}};
        for (int[] d : due) {
            EDGES.due("ways(" + d[0] + ", " + d[1] + ")", x.ways(d[0], d[1]), d[2]);
        }
        EDGES.due("the greatest cell", greatest().ways(0, MOST), 1);
        Check.tell(x, 0, "1 1 0;1 1 0;1 1 0;");
        EDGES.due("a column that no row has", x.ways(0, 1), 0);
        for (int n = 1, all = 1; n <= 8; n++, all *= n) {
            Check.tell(x, 0, Edges.slope(n, "1", "1"));
            EDGES.due("all choices of " + n, x.ways(0, 1), all);
        }
    }

    private static void noSuchWays() {
        EDGES.sentence("promise 20", "NONE: there is no TABLE, no such SLOT, L");
        EvenTables x = EDGES.with("1 2;3 4;");
        EDGES.due("no table", x.ways(1, 0), NONE);
        for (int slot : Edges.NO_SLOTS) {
            EDGES.due("ways(" + slot + ", 0)", x.ways(slot, 0), NONE);
        }
        for (int least : NO_LEAST) {
            EDGES.due("ways(0, " + least + ")", x.ways(0, least), NONE);
        }
    }

    private static void widest() {
        EDGES.sentence("promise 21", "The greatest L by which there is a PAIRING");
        String[] texts = {"0;", "1;", "999999;", "0 0;0 9;", "0 9;9 0;", "1 2;2 1;", "5 4;3 2;", "1 9 9;9 1 9;9 9 1;", "9 9 9;0 9 0;0 9 0;",
            "3 2 1;2 2 2;1 2 3;", "7 9 9;9 9 6;9 5 9;", Edges.slope(8, "0", "0"), Edges.slope(8, "6", "7"), Edges.slope(8, "8", "0")};
        int[] due = {0, 1, 999999, 0, 9, 2, 3, 9, 0, 2, 9, 0, 7, 8};
        EvenTables x = new EvenTables();
        for (int i = 0; i < texts.length; i++) {
            Check.tell(x, 0, texts[i]);
            EDGES.due("widest(0) of " + texts[i], x.widest(0), due[i]);
            EDGES.due("there is one by it", x.ways(0, due[i]) > 0, true);
            EDGES.due("there is none by one more", x.ways(0, due[i] + 1), 0);
        }
        EDGES.due("the greatest cell", greatest().widest(0), MOST);
    }

    private static void noSuchWidest() {
        EDGES.sentence("promise 21", "NONE: there is no TABLE, no such SLOT");
        EvenTables x = EDGES.with("1 2;3 4;");
        EDGES.due("widest(0)", x.widest(0), 2);
        Check.tell(x, 0, "");
        EDGES.due("no table", x.widest(0), NONE);
        for (int slot : Edges.NO_SLOTS) {
            EDGES.due("widest(" + slot + ")", x.widest(slot), NONE);
        }
    }

    private static void best(String text, long much, String columns) {
        EvenTables x = EDGES.with(text);
        EDGES.due("best(0, 0) of " + text, x.best(0, 0), much);
        for (int row = 0; row < columns.length(); row++) {
            EDGES.due("best(0, " + (10 + row) + ") of " + text, x.best(0, 10 + row), columns.charAt(row) - '0');
        }
    }

    private static void best() {
        EDGES.sentence("promise 22", "what 0 how much, 10 and i the column of row i");
        best("0;", 0, "0");
        best("7;", 7, "0");
        best("1 2;2 1;", 4, "10");
        best("0 5;0 0;", 5, "10");
        best("9 8 0;8 0 0;0 0 1;", 17, "102");
        best(Edges.slope(8, "9", "1"), 72, "01234567");
        best("0 0 0 0 0 0 0 4;" + "0 0 0 0 0 0 0 0;".repeat(7), 4, "70123456");
        EvenTables x = new EvenTables();
        long[][] all = new long[8][8];
        for (long[] row : all) {
            Arrays.fill(row, MOST);
        }
        Great.tell(x, 0, all);
        EDGES.due("the greatest there is", x.best(0, 0), 799999992L);
        EDGES.due("the last row's column", x.best(0, 17), 7);
    }

    private static void bestOfSeveral() {
        EDGES.sentence("promise 22", "The CHOICE with the greatest CELLS together, of several the first");
        best("0 0;0 0;", 0, "01");
        best("1 2;3 4;", 5, "01");
        best("1 1 1;1 1 1;1 1 1;", 3, "012");
        best("0 1 1;1 1 1;1 1 0;", 3, "120");
        best("0 3 3;3 0 3;3 3 0;", 9, "120");
        best(Edges.slope(8, "0", "0"), 0, "01234567");
        best(Edges.slope(8, "0", "1"), 8, "10325476");
        // Choices with cells 0 count here, unlike those that are peeled.
        best("0 1 1 1;1 2 0 0;1 0 2 0;1 0 0 2;", 6, "0123");
    }

    private static void noSuchBest() {
        EDGES.sentence("promise 22", "NONE: there is no TABLE, no such SLOT, or another what");
        EvenTables x = EDGES.with("1 2;3 4;", Edges.slope(8, "1", "0"), "5;");
        for (int what : new int[] {-1, 1, 2, 8, 9, 12, 13, 17, 18, 19, Integer.MIN_VALUE, Integer.MIN_VALUE + 9, Integer.MAX_VALUE}) {
            EDGES.due("of two rows: best(0, " + what + ")", x.best(0, what), NONE);
        }
        for (int what : new int[] {-1, 1, 9, 18, 19}) {
            EDGES.due("of eight rows: best(1, " + what + ")", x.best(1, what), NONE);
        }
        EDGES.due("of eight rows: best(1, 17)", x.best(1, 17), 7);
        EDGES.due("of one row: best(2, 10)", x.best(2, 10), 0);
        EDGES.due("of one row: best(2, 11)", x.best(2, 11), NONE);
        EDGES.due("no table: best(3, 0)", x.best(3, 0), NONE);
        EDGES.due("no table: best(3, 10)", x.best(3, 10), NONE);
        for (int slot : Edges.NO_SLOTS) {
            EDGES.due("best(" + slot + ", 0)", x.best(slot, 0), NONE);
            EDGES.due("best(" + slot + ", 10)", x.best(slot, 10), NONE);
        }
    }

    private static void permanents() {
        EDGES.sentence("promise 23", "The CELLS of all CHOICES multiplied, together");
        String[] texts = {"0;", "7;", "0 0;0 0;", "1 2;3 4;", "1 0;5 0;", "0 3;5 9;", "1 1 1;1 1 1;1 1 1;", "3 2 1;2 2 2;1 2 3;",
            Edges.slope(8, "1", "1"), Edges.slope(8, "0", "1"), Edges.slope(8, "2", "0"), "1/2 0;0 1/3;"};
        long[] due = {0, 7, 0, 10, 0, 15, 6, 52, 40320, 14833, 256, 6};
        EvenTables x = new EvenTables();
        for (int i = 0; i < texts.length; i++) {
            Check.tell(x, 0, texts[i]);
            EDGES.due("permanent(0) of " + texts[i], x.permanent(0), due[i]);
        }
    }

    private static EvenTables great(long[][] cells) {
        EvenTables x = new EvenTables();
        EDGES.due("great cells", Great.tell(x, 0, cells), true);
        return x;
    }

    private static void beyondLongs() {
        EDGES.sentence("promise 23", "-2: one of these sums is beyond longs");
        // Of one choice: the greatest long, and one more.
        EDGES.due("9223372036854775807", great(new long[][] {{82506439, 0, 0}, {0, 31252369, 0}, {0, 0, 3577}}).permanent(0), Long.MAX_VALUE);
        EDGES.due("9223372036854775808", great(new long[][] {{33554432, 0, 0}, {0, 33554432, 0}, {0, 0, 8192}}).permanent(0), -2);
        // Of two choices, of which each alone is within.
        EDGES.due("9223372036854775806 of two",
            great(new long[][] {{90280022, 2997779, 0}, {0, 97600058, 1005582}, {2971967, 0, 30}}).permanent(0), Long.MAX_VALUE - 1);
        EDGES.due("9223372036854775807 of two",
            great(new long[][] {{96446413, 16052417, 0}, {0, 90975805, 610928}, {461832, 0, 535}}).permanent(0), Long.MAX_VALUE);
        EDGES.due("9223372036854775808 of two",
            great(new long[][] {{98742232, 19601411, 0}, {0, 95439515, 503212}, {839544, 0, 100}}).permanent(0), -2);
        long[][] all = new long[8][8];
        for (long[] row : all) {
            Arrays.fill(row, MOST);
        }
        EDGES.due("far beyond", great(all).permanent(0), -2);
        EDGES.due("two rows are never beyond", great(new long[][] {{MOST, MOST}, {MOST, MOST}}).permanent(0), 2L * MOST * MOST);
    }

    private static void sumsOnTheWay() {
        EDGES.sentence("promise 23", "of each set of columns (none: 1), of as many first rows as it has, the CELLS of the last of these rows in its columns");
        long[][] first = {{MOST, 0, 0, 0}, {0, MOST, 0, 0}, {0, 0, MOST, 0}, {0, 0, 0, 0}};
        EDGES.due("a sum of the first three rows is beyond, all together 0", great(first).permanent(0), -2);
        long[][] last = {{0, 0, 0, 0}, {0, MOST, 0, 0}, {0, 0, MOST, 0}, {0, 0, 0, MOST}};
        EDGES.due("of the last three rows there is no sum", great(last).permanent(0), 0);
        long[][] unused = {{MOST, 0, 0, 0}, {0, MOST, 0, 0}, {0, 0, 922, 0}, {0, 0, 0, 1}};
        EDGES.due("within all the way", great(unused).permanent(0), 922L * MOST * MOST);
        unused[2][3] = 923;
        EDGES.due("of columns 0, 1, 3 it is beyond, and a cell 0 follows", great(unused).permanent(0), -2);
        unused[2][3] = 922;
        EDGES.due("of columns 0, 1, 3 it is within", great(unused).permanent(0), 922L * MOST * MOST);
    }

    private static void noSuchPermanent() {
        EDGES.sentence("promise 23", "NONE: there is no TABLE, no such SLOT");
        EvenTables x = EDGES.with("2;");
        EDGES.due("permanent(0)", x.permanent(0), 2);
        Check.tell(x, 0, "");
        EDGES.due("no table", x.permanent(0), NONE);
        for (int slot : Edges.NO_SLOTS) {
            EDGES.due("permanent(" + slot + ")", x.permanent(slot), NONE);
        }
    }
}
