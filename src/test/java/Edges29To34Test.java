import java.util.Arrays;

/** The edges of promises 29 to 34, sentence by sentence: what is shown, shops, jobs, what is kept. */
public final class Edges29To34Test {
    private static final int NONE = Edges.NONE;
    private static final Edges EDGES = new Edges();
    /** By rule 2 it comes to 25 pieces, and no shop has more. */
    private static final String FULL_SHOP = "47 13 9 45;4 51 45 36;19 34 33 10;46 52 41 36;";

    public static void main(String[] args) {
        shownNothing();
        shownWeights();
        shownRows();
        outOfRange();
        outOfTheLatest();
        shopsOfOne();
        shopsAsMade();
        shopsByRules();
        shopsOfGreatNumbers();
        fullShop();
        keptInstead();
        noShops();
        works();
        rests();
        noSuchWork();
        doneIn();
        pieces();
        moves();
        noSuchJob();
        keptKinds();
        keptCounts();
        keptBytes();
        keptOutside();
        EDGES.finish("Edges29To34Test");
    }

    private static void shownNothing() {
        EDGES.sentence("promise 29", "What is kept is SHOWN: how many bytes (of nothing)");
        EvenTables x = EDGES.with("1 2;1 2;");
        EDGES.due("show()", x.show(), 0);
        EDGES.due("out(0)", x.out(0), NONE);
        x.peel(0, 0);
        x.shop(1, 0);
        EDGES.due("show() after refused calls", x.show(), 0);
    }

    private static void shownWeights() {
        EDGES.sentence("promise 29", "of each PART its WEIGHT, \":\", the columns of all rows (one digit each), \";\" (nothing else)");
        String[] texts = {"1;", "9;", "10;", "99;", "100;", "101;", "999;", "1000;", "90909;", "100000;", "999999;"};
        EvenTables x = new EvenTables();
        for (String text : texts) {
            Check.tell(x, 0, text);
            x.peel(0, 0);
            String due = text.replace(";", ":0;");
            EDGES.due("show() of " + text, x.show(), due.length());
            EDGES.due("out of " + text, Edges.out(x), due);
        }
        Great.tell(x, 0, new long[][] {{Edges.MOST_CELL, 10000000}, {10000000, Edges.MOST_CELL}});
        x.peel(0, 0);
        EDGES.due("show() of the greatest", x.show(), 24);
        EDGES.due("out of the greatest", Edges.out(x), "99999999:01;10000000:10;");
    }

    private static void shownRows() {
        EDGES.sentence("promise 29", "the columns of all rows (of one, of eight, of a SHOP's 2 n)");
        EvenTables x = EDGES.with(Edges.slope(8, "1", "1"), "2 1;1 0;", "5;");
        x.peel(0, 0);
        EDGES.due("show() of eight", x.show(), 88);
        EDGES.due("the first part", Edges.out(x).substring(0, 11), "1:01234567;");
        EDGES.due("the last part", Edges.out(x).substring(77), "1:76543210;");
        x.shop(1, 0);
        EDGES.due("show() of a shop", x.show(), 14);
        EDGES.due("out of a shop", Edges.out(x), "2:0321;1:1032;");
        x.shop(2, 0);
        EDGES.due("out of a shop of one", Edges.shown(x), "5:01;");
        x.peel(2, 0);
        EDGES.due("out of one", Edges.shown(x), "5:0;");
    }

    private static void outOfRange() {
        EDGES.sentence("promise 30", "The i-th byte (from 0 on). NONE: there is none such");
        EvenTables x = EDGES.with("12;");
        for (int i = -1; i <= 1; i++) {
            EDGES.due("nothing was shown: out(" + i + ")", x.out(i), NONE);
        }
        x.peel(0, 0);
        EDGES.due("peeled, but not shown: out(0)", x.out(0), NONE);
        x.show();
        int[] due = {'1', '2', ':', '0', ';'};
        for (int i = 0; i < 5; i++) {
            EDGES.due("out(" + i + ")", x.out(i), due[i]);
        }
        for (int i : Edges.outside(0, 4)) {
            EDGES.due("out(" + i + ")", x.out(i), NONE);
        }
    }

    private static void outOfTheLatest() {
        EDGES.sentence("promise 30", "of what was SHOWN latest");
        EvenTables x = EDGES.with("12 3;3 12;", "7;");
        x.peel(0, 0);
        x.show();
        x.peel(1, 0);
        EDGES.due("others are kept, but not shown", Edges.out(x), "12:01;3:10;");
        x.shop(1, 0);
        x.peel(1, 9);
        Check.tell(x, 0, "1;");
        EDGES.due("nor now", Edges.out(x), "12:01;3:10;");
        x.show();
        EDGES.due("shown, and nothing of the longer one", Edges.out(x), "7:01;");
        EDGES.due("out(5)", x.out(5), NONE);
        x.show();
        EDGES.due("shown twice", Edges.out(x), "7:01;");
    }

    private static void shop(String text, int rule, int length, String due) {
        EvenTables x = EDGES.with(text);
        int pieces = x.shop(0, rule);
        EDGES.due("rule " + rule + " of " + text, Edges.shown(x), due);
        EDGES.due("shop(0, " + rule + ")", pieces, due.length() - due.replace(";", "").length());
        EDGES.due("LENGTH", x.kept(2), length);
    }

    private static void shopsOfOne() {
        EDGES.sentence("promise 31", "A SHOP by a RULE: how many PIECES (n 1; one hour; one JOB alone)");
        for (int rule = 0; rule < 4; rule++) {
            shop("5;", rule, 5, "5:01;");
            shop("1/7;", rule, 1, "1:01;");
            shop("0 0;0 1;", rule, 1, "1:2103;");
            shop("0 3;0 0;", rule, 3, "3:1302;");
            shop("0 0;3 0;", rule, 3, "3:2031;");
            shop("1 0;0 1;", rule, 1, "1:0123;");
            shop("0 2 0;2 0 0;0 0 0;", rule, 2, "2:105432;");
            shop("0 0 0 0;0 0 0 0;0 0 0 0;0 0 0 1;", rule, 1, "1:45630127;");
        }
    }

    private static void shopsAsMade() {
        EDGES.sentence("promise 31, terms", "LENGTH: the greatest sum of a row or column; It is made a TABLE of 2 n");
        // A row is the longest, then a column, then both are the same, then the table is even.
        shop("2 3;1 0;", 0, 5, "2:0321;1:1032;2:1302;");
        shop("1 0;2 0;", 0, 3, "1:0321;2:2031;");
        shop("2 1;1 0;", 0, 3, "2:0321;1:1032;");
        shop("1 2;2 1;", 0, 3, "1:0123;2:1032;");
        shop("0 2;1 1;", 0, 3, "1:1032;1:1302;1:2103;");
        shop("1 1;0 2;", 0, 3, "1:0123;1:1302;1:2103;");
        shop("0 0 0;1 3 0;2 0 1;", 0, 4, "1:302415;2:310542;1:315042;");
        shop("2 0 0;1 3 0;0 2 1;", 0, 5, "1:012345;1:015342;1:301452;1:315042;1:341052;");
        // Nothing is left of tables that were in the slot, or were peeled.
        EvenTables x = EDGES.with(Edges.slope(8, "9", "9"));
        x.peel(0, 0);
        Check.tell(x, 0, "5 0;0 5;");
        x.peel(0, 0);
        EDGES.due("shop(0, 3)", x.shop(0, 3), 1);
        EDGES.due("its pieces", Edges.shown(x), "5:0123;");
        EDGES.due("LENGTH", x.kept(2), 5);
    }

    private static void shopsByRules() {
        EDGES.sentence("promise 31, terms", "PEELED by a RULE");
        shop("2 3;1 0;", 0, 5, "2:0321;1:1032;2:1302;");
        shop("2 3;1 0;", 1, 5, "2:0321;2:1302;1:1032;");
        shop("2 3;1 0;", 2, 5, "1:1032;2:0321;2:1302;");
        shop("2 3;1 0;", 3, 5, "2:1302;2:0321;1:1032;");
        shop("1 0 2;3 0 0;0 0 3;", 0, 5, "1:042315;2:205413;1:302415;1:342015;");
        shop("1 0 2;3 0 0;0 0 3;", 1, 5, "2:205413;1:042315;1:302415;1:342015;");
        shop("1 0 2;3 0 0;0 0 3;", 2, 5, "1:042315;1:245013;1:205413;2:302415;");
        shop("1 0 2;3 0 0;0 0 3;", 3, 5, "2:302415;1:245013;1:042315;1:205413;");
    }

    private static void shopsOfGreatNumbers() {
        EDGES.sentence("promise 31, terms", "LENGTH (beyond what a CELL can be)");
        EvenTables x = new EvenTables();
        long[][] all = new long[4][4];
        for (long[] row : all) {
            Arrays.fill(row, Edges.MOST_CELL);
        }
        Great.tell(x, 0, all);
        for (int rule = 0; rule < 4; rule++) {
            EDGES.due("shop(0, " + rule + ")", x.shop(0, rule), 4);
            EDGES.due("LENGTH", x.kept(2), 399999996);
            EDGES.due("weight(3, 0)", x.weight(3, 0), 99999999);
            EDGES.due("weight(3, 2)", x.weight(3, 2), 4);
        }
        Great.tell(x, 0, new long[][] {{Edges.MOST_CELL, Edges.MOST_CELL}, {0, 0}});
        EDGES.due("one job alone", x.shop(0, 0), 2);
        EDGES.due("LENGTH", x.kept(2), 199999998);
        EDGES.due("out", Edges.shown(x), "99999999:0321;99999999:1302;");
        EDGES.due("its last hour", x.works(0, 199999997), 1);
        EDGES.due("beyond", x.works(0, 199999998), NONE);
    }

    /** Each job is on each machine for as many hours as its cell tells, and no two of them on one at once. */
    private static void fullShop() {
        EDGES.sentence("promise 31", "how many PIECES (as many as there can be)");
        int[] pieces = {15, 13, 25, 13};
        String[] cells = FULL_SHOP.split("[ ;]");
        for (int rule = 0; rule < 4; rule++) {
            EvenTables x = EDGES.with(FULL_SHOP);
            EDGES.due("shop(0, " + rule + ")", x.shop(0, rule), pieces[rule]);
            EDGES.due("LENGTH", x.kept(2), 175);
            int[] left = new int[16];
            for (int i = 0; i < 16; i++) {
                left[i] = Integer.parseInt(cells[i]);
            }
            for (int k = 0; k < pieces[rule]; k++) {
                int machines = 0;
                for (int job = 0; job < 4; job++) {
                    int machine = x.part(k, job);
                    if (machine < 4) {
                        EDGES.due("machine " + machine + " is free in piece " + k, machines >> machine & 1, 0);
                        machines |= 1 << machine;
                        left[job * 4 + machine] -= x.weight(k, 0);
                    }
                }
            }
            for (int i = 0; i < 16; i++) {
                EDGES.due("hours left of cell " + i, left[i], 0);
            }
        }
    }

    private static void keptInstead() {
        EDGES.sentence("promise 31", "kept instead of what was PEELED");
        EvenTables x = EDGES.with(Edges.THIRDS, "2 1;1 0;");
        x.peel(0, 0);
        EDGES.due("shop(1, 0)", x.shop(1, 0), 2);
        EDGES.due("kept(0)", x.kept(0), 2);
        EDGES.due("kept(1)", x.kept(1), 2);
        EDGES.due("kept(2)", x.kept(2), 3);
        EDGES.due("kept(3)", x.kept(3), 2);
        EDGES.due("part(2, 0)", x.part(2, 0), NONE);
        Check.tell(x, 1, "");
        EDGES.due("the table is gone, the shop is not", Edges.shown(x), "2:0321;1:1032;");
        EDGES.due("works(0, 2)", x.works(0, 2), 1);
    }

    private static void noShops() {
        EDGES.sentence("promise 31", "NONE: there is no TABLE with n 1 .. 4, all CELLS are 0, no such SLOT, RULE");
        EvenTables x = EDGES.with(Edges.slope(4, "1", "0"), Edges.slope(5, "1", "0"), "0 0;0 0;", "");
        for (int round = 0; round < 2; round++) {
            for (int rule = 0; rule < 4; rule++) {
                EDGES.due("n 5: shop(1, " + rule + ")", x.shop(1, rule), NONE);
                EDGES.due("all 0: shop(2, " + rule + ")", x.shop(2, rule), NONE);
                EDGES.due("no table: shop(3, " + rule + ")", x.shop(3, rule), NONE);
                for (int slot : Edges.NO_SLOTS) {
                    EDGES.due("shop(" + slot + ", " + rule + ")", x.shop(slot, rule), NONE);
                }
            }
            for (int rule : Edges.outside(0, 3)) {
                EDGES.due("shop(0, " + rule + ")", x.shop(0, rule), NONE);
            }
            EDGES.due("what was kept stays: kept(0)", x.kept(0), round);
            EDGES.due("what was kept stays: kept(1)", x.kept(1), round);
            EDGES.due("what was kept stays: kept(2)", x.kept(2), round);
            EDGES.due("what was kept stays: kept(3)", x.kept(3), 5 * round);
            EDGES.due("what was kept stays", Edges.shown(x), round == 0 ? "" : "1:01234;");
            x.peel(1, 0);
        }
        EDGES.due("n 4", x.shop(0, 0), 1);
        EDGES.due("no rule", x.shop(0, 4), NONE);
        EDGES.due("a shop that was kept stays", Edges.shown(x), "1:01234567;");
        Check.tell(x, 1, Edges.slope(8, "1", "0"));
        EDGES.due("n 8", x.shop(1, 0), NONE);
    }

    private static void hours(EvenTables x, int job, int... due) {
        for (int t = 0; t < due.length; t++) {
            EDGES.due("works(" + job + ", " + t + ")", x.works(job, t), due[t]);
        }
    }

    private static void works() {
        EDGES.sentence("promise 32", "the MACHINE on which a JOB is in an hour t: PIECES one behind the other, as long as WEIGHTS");
        EvenTables x = EDGES.with("2 3;1 0;", "1 2;2 1;", "5;");
        x.shop(0, 0);
        hours(x, 0, 0, 0, 1, 1, 1);
        x.shop(1, 0);
        hours(x, 0, 0, 1, 1);
        hours(x, 1, 1, 0, 0);
        x.shop(2, 0);
        hours(x, 0, 0, 0, 0, 0, 0);
    }

    private static void rests() {
        EDGES.sentence("promise 32", "NONE: it rests");
        EvenTables x = EDGES.with("2 3;1 0;", "0 4 0;0 2 0;0 0 1;", "0 0;0 1;");
        x.shop(0, 0);
        hours(x, 1, NONE, NONE, 0, NONE, NONE);
        x.shop(1, 2);
        hours(x, 0, 1, NONE, NONE, 1, 1, 1);
        hours(x, 1, NONE, 1, 1, NONE, NONE, NONE);
        hours(x, 2, 2, NONE, NONE, NONE, NONE, NONE);
        x.shop(2, 0);
        hours(x, 0, NONE);
        hours(x, 1, 1);
    }

    private static void noSuchWork() {
        EDGES.sentence("promise 32", "NONE: none such, t is below 0, LENGTH at least, or no SHOP is kept");
        EvenTables x = EDGES.with("1 2;2 1;", "5;");
        EDGES.due("nothing is kept", x.works(0, 0), NONE);
        x.peel(0, 0);
        EDGES.due("parts are kept", x.works(0, 0), NONE);
        x.shop(0, 0);
        for (int t : Edges.outside(0, 2)) {
            EDGES.due("works(0, " + t + ")", x.works(0, t), NONE);
            EDGES.due("works(1, " + t + ")", x.works(1, t), NONE);
        }
        for (int job : Edges.outside(0, 1)) {
            EDGES.due("works(" + job + ", 0)", x.works(job, 0), NONE);
        }
        EDGES.due("row 3 of the table made is no job", x.works(3, 0), NONE);
        x.shop(1, 0);
        EDGES.due("works(0, 4)", x.works(0, 4), 0);
        for (int i : Edges.outside(0, 0)) {
            EDGES.due("works(" + i + ", 0)", x.works(i, 0), NONE);
        }
        EDGES.due("works(0, 5)", x.works(0, 5), NONE);
        x.peel(1, 0);
        EDGES.due("parts are kept again", x.works(0, 0), NONE);
    }

    private static void jobs(String text, int rule, int what, int... due) {
        EvenTables x = EDGES.with(text);
        x.shop(0, rule);
        for (int job = 0; job < due.length; job++) {
            EDGES.due("job(" + job + ", " + what + ") of " + text, x.job(job, what), due[job]);
        }
    }

    private static void doneIn() {
        EDGES.sentence("promise 33", "of a JOB the hour in which it is done (what 0)");
        jobs("1;", 0, 0, 0);
        jobs("5;", 0, 0, 4);
        jobs("1 2;2 1;", 0, 0, 2, 2);
        jobs("2 3;1 0;", 0, 0, 4, 2);
        jobs("0 2;1 1;", 0, 0, 1, 2);
        jobs("0 4 0;0 2 0;0 0 1;", 2, 0, 5, 2, 0);
        // A job that never works is done in no hour.
        jobs("0 0;0 1;", 0, 0, NONE, 0);
    }

    private static void pieces() {
        EDGES.sentence("promise 33", "how many PIECES it works in (1)");
        jobs("5;", 0, 1, 1);
        jobs("0 0;0 1;", 0, 1, 0, 1);
        jobs("2 3;1 0;", 0, 1, 3, 1);
        jobs("0 4 0;0 2 0;0 0 1;", 2, 1, 2, 1, 1);
        jobs("2 0 0;1 3 0;0 2 1;", 0, 1, 2, 4, 3);
    }

    private static void moves() {
        EDGES.sentence("promise 33", "how often it comes from one MACHINE to another one (rests between don't matter) (2)");
        jobs("5;", 0, 2, 0);
        jobs("0 0;0 1;", 0, 2, 0, 0);
        // On 1, 1, at rest: on 0, at rest, on 1.
        jobs("0 2;1 1;", 0, 2, 0, 1);
        // On 0, 1, at rest: on 1, at rest, on 1.
        jobs("1 1;0 2;", 0, 2, 1, 0);
        // On 0, 0: on 1, 1, 0, 1: on 2, at rest, on 1, at rest, on 1.
        jobs("2 0 0;1 3 0;0 2 1;", 0, 2, 0, 2, 1);
        jobs("1 2 0;2 1 0;1 0 0;", 2, 2, 1, 1, 0);
    }

    private static void noSuchJob() {
        EDGES.sentence("promise 33", "NONE: there is none such, or another what");
        EvenTables x = EDGES.with("1 2;2 1;", Edges.slope(4, "1", "1"));
        for (int what = -1; what <= 3; what++) {
            EDGES.due("nothing is kept: job(0, " + what + ")", x.job(0, what), NONE);
        }
        x.peel(0, 0);
        for (int what = 0; what < 3; what++) {
            EDGES.due("parts are kept: job(0, " + what + ")", x.job(0, what), NONE);
        }
        int[] last = {1, 3};
        for (int slot = 0; slot < 2; slot++) {
            x.shop(slot, 0);
            for (int job : Edges.outside(0, last[slot])) {
                for (int what = 0; what < 3; what++) {
                    EDGES.due("job(" + job + ", " + what + ")", x.job(job, what), NONE);
                }
            }
            for (int what : Edges.outside(0, 2)) {
                EDGES.due("job(0, " + what + ")", x.job(0, what), NONE);
            }
            EDGES.due("the last job", x.job(last[slot], 1), slot == 0 ? 2 : 4);
        }
    }

    private static void keptKinds() {
        EDGES.sentence("promise 34", "What is kept: 0 nothing, 1 PARTS, 2 a SHOP (what 0)");
        EvenTables x = EDGES.with("1 2;2 1;");
        EDGES.due("nothing", x.kept(0), 0);
        x.peel(1, 0);
        x.shop(1, 0);
        EDGES.due("still nothing", x.kept(0), 0);
        x.peel(0, 0);
        EDGES.due("parts", x.kept(0), 1);
        x.shop(0, 0);
        EDGES.due("a shop", x.kept(0), 2);
        x.peel(0, 0);
        EDGES.due("parts again", x.kept(0), 1);
    }

    private static void keptCounts() {
        EDGES.sentence("promise 34", "how many PARTS (1), MARGIN or LENGTH (2), n (of a SHOP: of its JOBS) (3)");
        EvenTables x = EDGES.with("1 2;2 1;", "2 3;1 0;", Edges.slope(8, "1", "1"), "5;");
        int[][] due = {{0, 0, 0}, {2, 3, 2}, {3, 5, 2}, {8, 8, 8}, {1, 5, 1}, {1, 5, 1}};
        for (int i = 0; i < due.length; i++) {
            int answer = i == 0 ? 0 : i == 1 ? x.peel(0, 0) : i == 2 ? x.shop(1, 0) : i == 3 ? x.peel(2, 0) : i == 4 ? x.peel(3, 0) : x.shop(3, 0);
            EDGES.due("what was answered", answer, due[i][0]);
            for (int what = 1; what <= 3; what++) {
                EDGES.due("kept(" + what + ")", x.kept(what), due[i][what - 1]);
            }
        }
    }

    private static void keptBytes() {
        EDGES.sentence("promise 34", "4 bytes of THE TAPE");
        EvenTables x = new EvenTables();
        EDGES.due("none", x.kept(4), 0);
        for (int i = 1; i <= 30; i++) {
            x.feed(0, 0, 0, 0, 0);
            EDGES.due("kept(4)", x.kept(4), 20 * i);
        }
        x.feed(0, 0, 0, 0, 0);
        EDGES.due("full", x.kept(4), 600);
        x.end(599);
        EDGES.due("cut", x.kept(4), 599);
        x.table(0);
        EDGES.due("read", x.kept(4), 0);
    }

    private static void keptOutside() {
        EDGES.sentence("promise 34", "NONE for another what");
        EvenTables x = EDGES.with("1 2;2 1;");
        for (int i = 0; i < 3; i++) {
            for (int what : Edges.outside(0, 4)) {
                EDGES.due("kept(" + what + ")", x.kept(what), NONE);
            }
            EDGES.due("parts, then a shop", (i == 0 ? x.peel(0, 0) : x.shop(0, 0)) > 0, true);
        }
    }
}
