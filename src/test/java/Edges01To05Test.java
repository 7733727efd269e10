/** The edges that the terms name for texts and the tape, and those of promises 1 to 5, sentence by sentence. */
public final class Edges01To05Test {
    private static final int NONE = Edges.NONE;
    private static final Edges EDGES = new Edges();
    private static final String EIGHT = "1 1 1 1 1 1 1 1;";

    public static void main(String[] args) {
        newObject();
        newObjectIsItsOwn();
        bytesOfNumbers();
        howManyBytes();
        noMoreThan600();
        firstBytesAlone();
        notSoMany();
        tapeIsEmptyThen();
        slotsOfTables();
        rowsOfTables();
        slotStays();
        noSuchSlot();
        latestFault();
        anotherWhat();
        numbers();
        blanks();
        whatCannotStand();
        zeroBehindStroke();
        ninth();
        ragged();
        notAsManyRows();
        cellsOfTexts();
        belowsOfTexts();
        leastTermsEach();
        allCells0();
        firstByPlace();
        leastOfOnePlace();
        EDGES.finish("Edges01To05Test");
    }

    /** A text is told into slot 2, where another table stands. */
    private static void fault(String text, int fault, int place) {
        EvenTables x = EDGES.with("", "", "7;");
        String name = "\"" + text.replace("\n", "\\n") + "\": ";
        EDGES.due(name + "table(2)", Check.tell(x, 2, text), NONE);
        EDGES.due(name + "fault(0)", x.fault(0), fault);
        EDGES.due(name + "fault(1)", x.fault(1), place);
        EDGES.due(name + "slot 2", Edges.slot(x, 2), "1 over 1: 7");
    }

    private static void holds(String text, String slot) {
        EvenTables x = EDGES.with("", "", "7;");
        String name = "\"" + text.replace("\n", "\\n") + "\": ";
        EDGES.due(name + "table(2)", Check.tell(x, 2, text) >= 0, true);
        EDGES.due(name + "fault(0)", x.fault(0), 0);
        EDGES.due(name + "fault(1)", x.fault(1), NONE);
        EDGES.due(name + "slot 2", Edges.slot(x, 2), slot);
    }

    private static void newObject() {
        EDGES.sentence("promise 1", "All SLOTS are without TABLES");
        EvenTables x = new EvenTables();
        for (int slot = 0; slot < 4; slot++) {
            EDGES.due("slot " + slot, Edges.slot(x, slot), "0 over 0:");
            EDGES.due("look(slot, 2)", x.look(slot, 2), NONE);
            EDGES.due("look(slot, 5)", x.look(slot, 5), 0);
            EDGES.due("cell(slot, 0, 0)", x.cell(slot, 0, 0), NONE);
        }
        EDGES.sentence("promise 1", "nothing is PEELED");
        for (int what = 0; what < 5; what++) {
            EDGES.due("kept(" + what + ")", x.kept(what), 0);
        }
        EDGES.due("part(0, 0)", x.part(0, 0), NONE);
        EDGES.due("weight(0, 0)", x.weight(0, 0), NONE);
        EDGES.due("out(0)", x.out(0), NONE);
        EDGES.due("show()", x.show(), 0);
        EDGES.due("out(0)", x.out(0), NONE);
    }

    private static void newObjectIsItsOwn() {
        EDGES.sentence("promise 1", "A new object");
        EvenTables used = EDGES.with(Edges.THIRDS, "", "", "1;");
        used.peel(0, 0);
        used.show();
        Check.tell(used, 1, "x");
        Check.write(used, "1;");
        EvenTables x = new EvenTables();
        for (int slot = 0; slot < 4; slot++) {
            EDGES.due("look(" + slot + ", 0)", x.look(slot, 0), 0);
        }
        for (int what = 0; what < 5; what++) {
            EDGES.due("kept(" + what + ")", x.kept(what), 0);
        }
        EDGES.due("fault(0)", x.fault(0), 0);
        EDGES.due("fault(1)", x.fault(1), NONE);
        EDGES.due("out(0)", x.out(0), NONE);
        EDGES.due("the other one keeps its parts", used.kept(1), 5);
    }

    private static void bytesOfNumbers() {
        EDGES.sentence("promise 2", "Twenty bytes come behind THE TAPE, four of each number, the highest first");
        // "12345 6/7;8 90123/4;", where no two bytes could change their places unseen.
        EvenTables x = new EvenTables();
        EDGES.due("feed", x.feed(0x31323334, 0x3520362F, 0x373B3820, 0x39303132, 0x332F343B), 20);
        x.table(0);
        EDGES.due("slot 0", Edges.slot(x, 0), "2 over 28: 345660 24 224 630861");
        // "1;" and "2;" behind one another; bytes above 127 are none of the signs that they have with 128 less.
        x.feed(0x31203220, 0x20202020, 0x20202020, 0x20202020, 0x2020203B);
        EDGES.due("behind", x.feed(0x33203420, 0x20202020, 0x20202020, 0x20202020, 0x2020203B), 40);
        x.table(0);
        EDGES.due("slot 0", Edges.slot(x, 0), "2 over 1: 1 2 3 4");
        for (int sign : new int[] {0xB1, 0xBB, 0xAF, 0xA0, 0x8A, 0xFF, 0x80}) {
            x.feed(0x313B0000 | sign << 8 | 0x20, 0x20202020, 0x20202020, 0x20202020, 0x20202020);
            EDGES.due("byte " + sign, x.table(0), NONE);
            EDGES.due("fault(1)", x.fault(1), 2);
        }
        x.feed(0xB13B2020, 0x20202020, 0x20202020, 0x20202020, 0x20202020);
        EDGES.due("a number below 0", x.table(0), NONE);
        EDGES.due("fault(1)", x.fault(1), 0);
    }

    private static void howManyBytes() {
        EDGES.sentence("promise 2", "how many it has");
        EvenTables x = new EvenTables();
        for (int i = 1; i <= 30; i++) {
            EDGES.due("feed " + i, x.feed(0, -1, Integer.MIN_VALUE, Integer.MAX_VALUE, 1), 20 * i);
            EDGES.due("kept(4)", x.kept(4), 20 * i);
        }
        x.end(7);
        EDGES.due("behind 7 bytes", x.feed(0, 0, 0, 0, 0), 27);
    }

    private static void noMoreThan600() {
        EDGES.sentence("promise 2", "NONE, and none come, if there would be more than 600");
        int[] lengths = {579, 580, 581, 599, 600};
        for (int length : lengths) {
            EvenTables x = new EvenTables();
            Check.write(x, " ".repeat(length - 2) + "5;");
            // Bytes that can't stand anywhere: if one of them came, there would be a FAULT.
            boolean room = length <= 580;
            EDGES.due("feed behind " + length, x.feed(-1, -1, -1, -1, -1), room ? length + 20 : NONE);
            EDGES.due("kept(4)", x.kept(4), room ? length + 20 : length);
            EDGES.due("table(0)", x.table(0), room ? NONE : 1);
            EDGES.due("fault(1)", x.fault(1), room ? length : NONE);
            EDGES.due("cell(0, 0, 0)", x.cell(0, 0, 0), room ? NONE : 5);
            EDGES.due("feed, as it is empty then", x.feed(0, 0, 0, 0, 0), 20);
        }
    }

    private static void firstBytesAlone() {
        EDGES.sentence("promise 3", "THE TAPE has its first n bytes alone: true");
        EvenTables x = new EvenTables();
        EDGES.due("end(0) of an empty one", x.end(0), true);
        EDGES.due("kept(4)", x.kept(4), 0);
        Check.write(x, "12;34;");
        EDGES.due("end(6), all of them", x.end(6), true);
        EDGES.due("kept(4)", x.kept(4), 6);
        EDGES.due("end(3)", x.end(3), true);
        EDGES.due("kept(4)", x.kept(4), 3);
        x.table(0);
        EDGES.due("slot 0", Edges.slot(x, 0), "1 over 1: 12");
        Check.write(x, "12;34;");
        EDGES.due("end(1)", x.end(1), true);
        EDGES.due("feed", x.feed(0x373B2020, 0x20202020, 0x20202020, 0x20202020, 0x20202020), 21);
        x.table(0);
        EDGES.due("what comes then stands right behind", Edges.slot(x, 0), "1 over 1: 17");
        Check.write(x, "12;34;");
        EDGES.due("end(0)", x.end(0), true);
        EDGES.due("none is left", x.table(0), 0);
    }

    private static void notSoMany() {
        EDGES.sentence("promise 3", "false if it has not so many, or n is below 0");
        EvenTables x = new EvenTables();
        for (int n : Edges.outside(0, 0)) {
            EDGES.due("end(" + n + ") of an empty one", x.end(n), false);
        }
        Check.write(x, "12;34;");
        for (int n : Edges.outside(0, 6)) {
            EDGES.due("end(" + n + ") of 6", x.end(n), false);
            EDGES.due("kept(4)", x.kept(4), 6);
        }
        x.end(3);
        EDGES.due("bytes that are gone don't come back", x.end(4), false);
        EDGES.due("kept(4)", x.kept(4), 3);
        x.table(0);
        EDGES.due("slot 0", Edges.slot(x, 0), "1 over 1: 12");
        EDGES.due("nor behind table()", x.end(1), false);
        Check.write(x, " ".repeat(600));
        for (int n : Edges.outside(0, 600)) {
            EDGES.due("end(" + n + ") of 600", x.end(n), false);
        }
        EDGES.due("end(600)", x.end(600), true);
        EDGES.due("end(599)", x.end(599), true);
        EDGES.due("end(600)", x.end(600), false);
    }

    private static void tapeIsEmptyThen() {
        EDGES.sentence("promise 4", "THE TAPE (empty then, in each case)");
        EvenTables x = new EvenTables();
        EDGES.due("a table", Check.tell(x, 0, "1;"), 1);
        EDGES.due("kept(4)", x.kept(4), 0);
        EDGES.due("a fault", Check.tell(x, 0, "1"), NONE);
        EDGES.due("kept(4)", x.kept(4), 0);
        for (int slot : Edges.NO_SLOTS) {
            EDGES.due("no such slot", Check.tell(x, slot, "1;"), -2);
            EDGES.due("kept(4)", x.kept(4), 0);
        }
        EDGES.due("none of it is left", x.table(0), 0);
        EDGES.due("an empty one", x.kept(4), 0);
        EDGES.due("a full one", Check.tell(x, 0, " ".repeat(600)), 0);
        EDGES.due("kept(4)", x.kept(4), 0);
    }

    private static void slotsOfTables() {
        EDGES.sentence("promise 4", "is a TABLE that comes into a SLOT");
        EvenTables x = EDGES.with("1;", "2;", "3;", "4;");
        for (int slot = 0; slot < 4; slot++) {
            EDGES.due("table(" + slot + ")", Check.tell(x, slot, "1 2;3 " + slot + ";"), 2);
            for (int other = 0; other < 4; other++) {
                String due = other <= slot ? "2 over 1: 1 2 3 " + other : "1 over 1: " + (other + 1);
                EDGES.due("slot " + other, Edges.slot(x, other), due);
            }
        }
    }

    private static void rowsOfTables() {
        EDGES.sentence("promise 4", "n (n 0 .. 8; 0 at first: none)");
        EvenTables x = EDGES.with("1 2;3 4;");
        for (int n = 0; n <= 8; n++) {
            EDGES.due("table(0) of " + n, Check.tell(x, 0, Edges.slope(n, "1", "0")), n);
            EDGES.due("look(0, 0)", x.look(0, 0), n);
            EDGES.due("the last cell", x.cell(0, n - 1, n - 1), n == 0 ? NONE : 1);
            EDGES.due("none beyond", x.cell(0, n, n), NONE);
        }
        EDGES.due("table(0) of 9", Check.tell(x, 0, Edges.slope(9, "1", "0")), NONE);
        EDGES.due("look(0, 0)", x.look(0, 0), 8);
        EDGES.due("no rows, so no table", Check.tell(x, 0, ""), 0);
        EDGES.due("slot 0", Edges.slot(x, 0), "0 over 0:");
        Check.tell(x, 0, "5;");
        EDGES.due("blanks alone", Check.tell(x, 0, " \n"), 0);
        EDGES.due("slot 0", Edges.slot(x, 0), "0 over 0:");
    }

    private static void slotStays() {
        EDGES.sentence("promise 4", "NONE with a FAULT (the SLOT stays)");
        String[] texts = {"x", "1/0;", "1;1;1;1;1;1;1;1;1;", "1 2;3;", "1 2;", "1/999 1/1000;1/1001 1;"};
        for (int i = 0; i < texts.length; i++) {
            EvenTables x = EDGES.with("", "1/2 1/3 0;4 5 6;7 8 9;");
            EDGES.due("into a table: " + texts[i], Check.tell(x, 1, texts[i]), NONE);
            EDGES.due("fault(0)", x.fault(0), i + 1);
            EDGES.due("slot 1", Edges.slot(x, 1), "3 over 6: 3 2 0 24 30 36 42 48 54");
            EDGES.due("into none: " + texts[i], Check.tell(x, 0, texts[i]), NONE);
            EDGES.due("slot 0", Edges.slot(x, 0), "0 over 0:");
        }
    }

    private static void noSuchSlot() {
        EDGES.sentence("promise 4", "-2: there is no such SLOT (no FAULT then)");
        for (int slot : Edges.NO_SLOTS) {
            EvenTables x = EDGES.with("1;", "2;", "3;", "4;");
            Check.tell(x, 0, "x");
            EDGES.due("a text with a fault", Check.tell(x, slot, "1 2;3 x;"), -2);
            EDGES.due("fault(0)", x.fault(0), 0);
            EDGES.due("fault(1)", x.fault(1), NONE);
            EDGES.due("a text without", Check.tell(x, slot, "1 2;3 4;"), -2);
            EDGES.due("none", x.table(slot), -2);
            for (int i = 0; i < 4; i++) {
                EDGES.due("slot " + i, Edges.slot(x, i), "1 over 1: " + (i + 1));
            }
        }
    }

    private static void latestFault() {
        EDGES.sentence("promise 5", "Of the latest table() what 0 its FAULT (0 without), 1 its place (NONE)");
        EvenTables x = EDGES.with(Edges.THIRDS);
        EDGES.due("without: fault(0)", x.fault(0), 0);
        EDGES.due("without: fault(1)", x.fault(1), NONE);
        Check.tell(x, 1, "x");
        EDGES.due("at the first byte: fault(0)", x.fault(0), 1);
        EDGES.due("at the first byte: fault(1)", x.fault(1), 0);
        Check.tell(x, 1, "1 2;3 4/0;");
        EDGES.due("another one: fault(0)", x.fault(0), 2);
        EDGES.due("another one: fault(1)", x.fault(1), 8);
        // Other calls leave it, refused ones too.
        Check.write(x, "1;");
        x.end(9);
        x.peel(0, 0);
        x.peel(1, 0);
        x.mix(0, 1, 2, 0, 1, 2, 3);
        x.mix(0, 1, 0, 0, 1, 2, 3);
        EDGES.due("it stays: fault(0)", x.fault(0), 2);
        EDGES.due("it stays: fault(1)", x.fault(1), 8);
        x.table(1);
        EDGES.due("a table came: fault(0)", x.fault(0), 0);
        EDGES.due("a table came: fault(1)", x.fault(1), NONE);
        Check.tell(x, 1, " ".repeat(599) + "1");
        EDGES.due("at the end: fault(0)", x.fault(0), 1);
        EDGES.due("at the end: fault(1)", x.fault(1), 600);
        x.table(1);
        EDGES.due("an empty text: fault(0)", x.fault(0), 0);
        EDGES.due("an empty text: fault(1)", x.fault(1), NONE);
    }

    private static void anotherWhat() {
        EDGES.sentence("promise 5", "NONE for another what");
        EvenTables x = new EvenTables();
        for (int what : Edges.outside(0, 1)) {
            EDGES.due("without a fault: fault(" + what + ")", x.fault(what), NONE);
        }
        Check.tell(x, 0, "1 2;3 4/0;");
        for (int what : Edges.outside(0, 1)) {
            EDGES.due("with a fault: fault(" + what + ")", x.fault(what), NONE);
        }
    }

    private static void numbers() {
        EDGES.sentence("promise 4, terms", "NUMBERS: 1 to 6 digits that stand together");
        holds("0;", "1 over 1: 0");
        holds("9;", "1 over 1: 9");
        holds("999999;", "1 over 1: 999999");
        holds("000009;", "1 over 1: 9");
        holds("000000;", "1 over 1: 0");
        holds("1/999999;", "1 over 999999: 1");
        holds("1/000003;", "1 over 3: 1");
        holds("10 1;23 0123;", "2 over 1: 10 1 23 123");
        EDGES.sentence("promise 5, terms", "1 (a NUMBER of more digits: at its begin)");
        fault("1000000;", 1, 0);
        fault("0000000;", 1, 0);
        fault(" \n0000009", 1, 2);
        fault("1 2;3 1234567890;", 1, 6);
        fault("1/ 1234567;", 1, 3);
        fault("7".repeat(600), 1, 0);
    }

    private static void blanks() {
        EDGES.sentence("promise 4, terms", "Blanks (32, 10) between where one likes");
        holds(" \n1 \n/ \n2 \n3 \n; \n4\n5\n/\n6\n;\n \n", "2 over 6: 3 18 24 5");
        holds("1/2 3;4 5/6;", "2 over 6: 3 18 24 5");
        holds("1/2\n3;4\n5/6;", "2 over 6: 3 18 24 5");
        for (int sign : new int[] {0, 9, 11, 13, 31, 33, 42, 160}) {
            fault("1" + (char) sign + ";", 1, 1);
            fault((char) sign + "1;", 1, 0);
        }
    }

    private static void whatCannotStand() {
        EDGES.sentence("promise 5, terms", "1 what can't stand there");
        // The signs next to digits, "/" and ";" by their numbers.
        for (char sign : new char[] {'.', ':', '<', ',', '-', '+', 'a', (char) 255}) {
            fault(sign + "1;", 1, 0);
            fault("1" + sign, 1, 1);
            fault("1/" + sign, 1, 2);
            fault("1;" + sign, 1, 2);
        }
        fault("/", 1, 0);
        fault("1;/2;", 1, 2);
        fault("1//2;", 1, 2);
        fault("1/2/3;", 1, 3);
        fault("1/2 /3;", 1, 4);
        fault("1/;", 1, 2);
        fault("1 2;/3 4;", 1, 4);
        EDGES.sentence("promise 5, terms", "1 at the end: its length (a ROW without its \";\")");
        fault("1", 1, 1);
        fault("1 ", 1, 2);
        fault("1/", 1, 2);
        fault("1/ \n", 1, 4);
        fault("1/2", 1, 3);
        fault("1 2;3", 1, 5);
        fault("1 2;3 4", 1, 7);
        fault(" ".repeat(599) + "1", 1, 600);
    }

    private static void zeroBehindStroke() {
        EDGES.sentence("promise 5, terms", "2 a 0 behind \"/\" (at it)");
        fault("1/0;", 2, 2);
        fault("0/0;", 2, 2);
        fault("1/ \n000000;", 2, 4);
        fault("1/00", 2, 2);
        fault("1 2;3 4/0 5", 2, 8);
        holds("0/1;", "1 over 1: 0");
        holds("1/1;", "1 over 1: 1");
        holds("1/10;", "1 over 10: 1");
    }

    private static void ninth() {
        EDGES.sentence("promise 5, terms", "3 a 9th ROW (at its first byte)");
        holds(EIGHT.repeat(8), "8 over 1:" + " 1".repeat(64));
        holds(EIGHT.repeat(8) + " \n", "8 over 1:" + " 1".repeat(64));
        fault(EIGHT.repeat(8) + " \n1", 3, 130);
        fault(EIGHT.repeat(8) + "1/0;", 3, 128);
        fault(EIGHT.repeat(8) + " ;", 3, 129);
        fault(";;;;;;;;;", 3, 8);
        fault("1;1;1;1;1;1;1;1;1;", 3, 16);
        EDGES.sentence("promise 5, terms", "3 a 9th fraction of a ROW (at its first byte)");
        fault("1 1 1 1 1 1 1 1 1;", 3, 16);
        fault("1 1 1 1 1 1 1 1/2  12/0", 3, 19);
        fault(EIGHT + "1 1 1 1 1 1 1 1 1;", 3, 32);
        fault("1 1 1 1 1 1 1 1;1 1 1 1 1 1 1;", 4, 29);
        fault("1 1 1 1 1 1 1 1;", 5, 16);
    }

    private static void ragged() {
        EDGES.sentence("promise 5, terms", "4 a ROW that has not as many fractions as the first one (at its \";\")");
        fault("1 2;3;", 4, 5);
        fault("1 2;3 ;4 5;", 4, 6);
        fault("1 2;;", 4, 4);
        fault("1 2;3 4; \n;", 4, 10);
        fault("1;;", 4, 2);
        EDGES.sentence("promise 5, terms", "4 (at a fraction beyond them)");
        fault("1 2;3 4 5;", 4, 8);
        fault("1 2;3 4 \n5/6 7;", 4, 9);
        fault("1;2 3;", 4, 4);
        fault(";1;", 4, 1);
        fault("1 2;3 4;5 6 7", 4, 12);
        fault("1 2 3 4 5 6 7;1 2 3 4 5 6 7 8 9;", 4, 28);
    }

    private static void notAsManyRows() {
        EDGES.sentence("promise 5, terms", "5 not as many ROWS as fractions in the first one (at the end)");
        fault("1 2;", 5, 4);
        fault("1 2; \n", 5, 6);
        fault("1;2;", 5, 4);
        fault("1 2 3;4 5 6;", 5, 12);
        fault("1 2;3 4;5 6;", 5, 12);
        fault(";", 5, 1);
        fault(";;", 5, 2);
        fault(" ;;;;;;;;", 5, 9);
        fault(EIGHT.repeat(7), 5, 112);
        fault("1 1 1 1 1 1 1;".repeat(8), 5, 112);
        holds("1 2;3 4;", "2 over 1: 1 2 3 4");
    }

    private static void cellsOfTexts() {
        EDGES.sentence("promise 5, terms", "6 what would be beyond (a CELL; at the end): CELLS are whole numbers 0 .. 99999999");
        holds("0 1/322;310559 0;", "2 over 322: 0 1 99999998 0");
        holds("990099 1/101;0 0;", "2 over 101: 99999999 1 0 0");
        fault("800000 1/125;0 0;", 6, 17);
        fault("0 1/125;0 800000; \n", 6, 19);
        fault("999999 1/999999;0 0;", 6, 20);
    }

    private static void belowsOfTexts() {
        EDGES.sentence("promise 5, terms", "6 what would be beyond (the BELOW; at the end): BELOW 1 .. 999999");
        holds("1/2 0;0 1/499999;", "2 over 999998: 499999 0 0 2");
        holds("1/999 0;0 1/1001;", "2 over 999999: 1001 0 0 999");
        fault("1/64 0;0 1/15625;", 6, 17);
        fault("1/15625 1/64;0 0;\n", 6, 18);
        fault("1/101 0;0 1/9901;", 6, 17);
        fault("1/999999 1/999998;1/999997 1/999995;", 6, 36);
    }

    private static void leastTermsEach() {
        EDGES.sentence("promise 4, terms", "the least common multiple of those told, in least terms each");
        holds("2/1998 0;0 1/1001;", "2 over 999999: 1001 0 0 999");
        holds("6/4 10/5;999999/999999 3/9;", "2 over 6: 9 12 6 2");
        holds("4/6;", "1 over 3: 2");
        holds("0/999999 1/2;0 0/999998;", "2 over 2: 0 1 0 0");
        holds("1/6 1/10;1/15 1;", "2 over 30: 5 3 2 30");
    }

    private static void allCells0() {
        EDGES.sentence("promise 4, terms", "BELOW is 1, if all CELLS are 0");
        holds("0/7;", "1 over 1: 0");
        holds("0/999999 0/999998;0/999997 0;", "2 over 1: 0 0 0 0");
    }

    private static void firstByPlace() {
        EDGES.sentence("promise 5, terms", "FAULTS, the first by its place");
        fault("1 2;3 x 4 5;", 1, 6);
        fault("1 2;3 4 5 x;", 4, 8);
        fault("1 2;3 4/0;x", 2, 8);
        fault("1 2;3;4/0 5;", 4, 5);
        fault("1/0 1 1 1 1 1 1 1 1;", 2, 2);
        fault("1/999999 1/999998;1 x;", 1, 20);
        fault("1/999999 1/999998;1;", 4, 19);
        fault("1/999999 1/999998;1 1/0;", 2, 22);
        fault("1 2 3;4;", 4, 7);
    }

    private static void leastOfOnePlace() {
        EDGES.sentence("promise 5, terms", "of one place the least number");
        fault("1/0000000;", 1, 2);
        fault("1 1 1 1 1 1 1 1 1234567;", 1, 16);
        fault(EIGHT.repeat(8) + "1234567;", 1, 128);
        fault("1;2 1234567;", 1, 4);
        fault(EIGHT + "1 1 1 1 1 1 1 1 1;", 3, 32);
        fault(EIGHT.repeat(8) + ";", 3, 128);
        fault("1 2;3 4;5", 1, 9);
        fault("1 2", 1, 3);
        fault("1/999999 1/999998;", 5, 18);
        fault("1/999999;1/999998;", 5, 18);
    }
}
