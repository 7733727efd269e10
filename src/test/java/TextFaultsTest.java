/** Texts and their faults: the terms' block on texts, promises 4 and 5. */
public final class TextFaultsTest {
    private static final Check CHECK = new Check();
    private static final String EIGHT = "1 1 1 1 1 1 1 1;";

    public static void main(String[] args) {
        good();
        strange();
        belowZero();
        ninth();
        ragged();
        notSquare();
        tooGreat();
        behindTheEnd();
        CHECK.finish("TextFaultsTest");
    }

    /** A text with a fault leaves the slot as it was; each time the tape is empty then. */
    private static void due(String text, int fault, int place) {
        EvenTables x = new EvenTables();
        CHECK.in("\"" + text.replace("\n", "\\n") + "\"");
        Check.tell(x, 2, "7;");
        int answer = Check.tell(x, 2, text);
        CHECK.due("fault(0)", x.fault(0), fault);
        CHECK.due("fault(1)", x.fault(1), place);
        CHECK.due("kept(4)", x.kept(4), 0);
        if (fault != 0) {
            CHECK.due("table(2)", answer, EvenTables.NONE);
            CHECK.due("cell(2, 0, 0)", x.cell(2, 0, 0), 7);
        }
    }

    private static void holds(String text, int n, int below, int... cells) {
        EvenTables x = new EvenTables();
        CHECK.in("\"" + text.replace("\n", "\\n") + "\"");
        CHECK.due("table(1)", Check.tell(x, 1, text), n);
        CHECK.due("look(1, 0)", x.look(1, 0), n);
        CHECK.due("look(1, 1)", x.look(1, 1), below);
        for (int i = 0; i < cells.length; i++) {
            CHECK.due("cell " + i, x.cell(1, i / n, i % n), cells[i]);
        }
        CHECK.due("fault(0)", x.fault(0), 0);
        CHECK.due("fault(1)", x.fault(1), EvenTables.NONE);
    }

    private static void good() {
        holds("", 0, 0);
        holds(" \n ", 0, 0);
        holds("0;", 1, 1, 0);
        holds("0/7;", 1, 1, 0);
        holds("4/6;", 1, 3, 2);
        holds(" 1 / 2\n1\n/\n3 ;1/6 000005;", 2, 6, 3, 2, 1, 30);
        holds("2/4 3/9;10/5 0/999999;", 2, 6, 3, 2, 12, 0);
        holds("999999/999999;", 1, 1, 1);
        holds("1/999999;", 1, 999999, 1);
        holds("999999/1 1/100;0 0;", 2, 100, 99999900, 1, 0, 0);
        holds(EIGHT.repeat(8), 8, 1, 1, 1, 1, 1, 1, 1, 1, 1, 1);
    }

    private static void strange() {
        due("x", 1, 0);
        due("1;x", 1, 2);
        due("-1;", 1, 0);
        due("\t1;", 1, 0);
        due("1;" + (char) 177, 1, 2);
        due("1;" + (char) 0, 1, 2);
        due("/1;", 1, 0);
        due("1//2;", 1, 2);
        due("1/2/3;", 1, 3);
        due("1/;", 1, 2);
        due("1/ x;", 1, 3);
        due("1234567;", 1, 0);
        due(" 0000001;", 1, 1);
        due("1/1234567;", 1, 2);
        due("1/0000000;", 1, 2);
        due("1 2;3 4567890;", 1, 6);
        due("1;2 3456789;", 1, 4);
        due("1", 1, 1);
        due("1 ", 1, 2);
        due("1/", 1, 2);
        due("1/ ", 1, 3);
        due("1/2", 1, 3);
        due("1 2;3 4", 1, 7);
        due("1;2", 1, 3);
        due(EIGHT.repeat(8) + "x", 1, 128);
        due(EIGHT.repeat(8) + "/", 1, 128);
        due(EIGHT.repeat(8) + " 1234567", 1, 129);
        due("1 1 1 1 1 1 1 1 1234567;", 1, 16);
    }

    private static void belowZero() {
        due("1/0;", 2, 2);
        due("1/ 000000;", 2, 3);
        due("0/0;", 2, 2);
        due("1 2;1 1/0 x;", 2, 8);
    }

    private static void ninth() {
        due("1 1 1 1 1 1 1 1 1;", 3, 16);
        due("1 1 1 1 1 1 1 1  1/0;", 3, 17);
        due(EIGHT + "1 1 1 1 1 1 1 1 1;", 3, 32);
        due(EIGHT.repeat(8) + "1", 3, 128);
        due(EIGHT.repeat(8) + " ;", 3, 129);
        due(";;;;;;;;;", 3, 8);
        due("1;1;1;1;1;1;1;1;1;", 3, 16);
    }

    private static void ragged() {
        due("1 2;3;", 4, 5);
        due("1 2;;", 4, 4);
        due("1 2;3 4 5;", 4, 8);
        due("1 2;3 4 5/0;", 4, 8);
        due(";1;", 4, 1);
        due("1 2;3 4;5 ;", 4, 10);
        due("1 2;3;x", 4, 5);
    }

    private static void notSquare() {
        due("1 2;", 5, 4);
        due("1 2; \n", 5, 6);
        due("1;2;", 5, 4);
        due(";", 5, 1);
        due(";;;;;;;;", 5, 8);
        due("1 2;3 4;5 6;", 5, 12);
        due("1/999999 1/999998;", 5, 18);
    }

    private static void tooGreat() {
        due("1/999999 1/999998;1 1;", 6, 22);
        due("1/1000 1/1001;0 0; ", 6, 19);
        due("999999/1 1/101;0 0;", 6, 19);
        due("990100 1/101;0 0;", 6, 17);
        due("990099 1/101;0 0;", 0, -1);
        due("1 1;1/1000 1/1001;", 6, 18);
        due("1/999999 1;1 1/2;", 6, 17);
        due("999999/1 0/101;0 0;", 0, -1);
        due("999999/1 101/101;0 0;", 0, -1);
        due("1/1000 1/999;0 0;", 0, -1);
        due("1/999 1/1001;0 0;", 0, -1);
        due("1/1000 1/1000;0 1/3;", 0, -1);
    }

    /** Bytes that stood behind the end once are no part of the text, and a text may fill the tape. */
    private static void behindTheEnd() {
        String[] cut = {"1;", "12;", "1/2;", "1;2;", "1 /2;", "x;"};
        int[][] dues = {{1, 1, 1}, {1, 1, 1}, {1, 1, 1}, {2, 0, -1}, {2, 1, 2}, {0, 0, -1}};
        for (int i = 0; i < cut.length; i++) {
            EvenTables x = new EvenTables();
            CHECK.in("\"" + cut[i] + "\", cut");
            Check.write(x, cut[i]);
            CHECK.due("end", x.end(dues[i][0]), true);
            x.table(0);
            CHECK.due("fault(0)", x.fault(0), dues[i][1]);
            CHECK.due("fault(1)", x.fault(1), dues[i][2]);
        }
        due(" ".repeat(598) + "1;", 0, -1);
        due(" ".repeat(599) + "1", 1, 600);
        due(" ".repeat(598) + "1/", 1, 600);
        due(" ".repeat(597) + "1/2", 1, 600);
        due("1;" + " ".repeat(598), 0, -1);
        due("1" + " ".repeat(599), 1, 600);
        due("1/" + " ".repeat(598), 1, 600);
        due("1".repeat(600), 1, 0);
        due(" ".repeat(599) + ";", 5, 600);
        due(" ".repeat(597) + "1;x", 1, 599);
        // What an earlier, longer text left on the tape doesn't count either.
        EvenTables x = new EvenTables();
        CHECK.in("texts one after the other");
        Check.tell(x, 0, "1 2;3 4;/2 5;6 7;8 9;;;;;;;;;");
        CHECK.due("table(0)", Check.tell(x, 0, "5;"), 1);
        CHECK.due("cell(0, 0, 0)", x.cell(0, 0, 0), 5);
    }
}
