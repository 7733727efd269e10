import java.util.Random;

/**
 * What the promises say of one another: answers of one call by those of others, on many tables, without another program
 * to compare with. Each law takes an object of its own, so that none is asked more than 512 times.
 */
public final class BetweenCallsTest {
    private static final Check CHECK = new Check();
    private static final int NONE = EvenTables.NONE;
    private static final Random RANDOM = new Random(34);
    private static final String ONES = "1 0 0 0 0 0;0 1 0 0 0 0;0 0 1 0 0 0;0 0 0 1 0 0;0 0 0 0 1 0;0 0 0 0 0 1;";

    private static String text = "";

    public static void main(String[] args) {
        for (int round = 0; round < 600; round++) {
            int n = 1 + round % 6;
            text = evenText(n);
            for (int rule = 0; rule < 4; rule++) {
                partsMakeUpTheTable(rule);
                shownAreTheParts(rule);
                drawnByWeights(rule);
            }
            mostAndJointAreCells();
            firstPartsArePairings();
            fewNotMoreThanBound();
            productOfEvenIsEven();
            everyTable();
            text = anyText(n);
            everyTable();
        }
        CHECK.finish("BetweenCallsTest");
    }

    private static void everyTable() {
        pairedOrLacking();
        turnedBack();
        sharesOfItself();
        roundedKeepsSums();
        kinOfThoseThatMix();
        for (int rule = 0; rule < 4; rule++) {
            hoursAreCells(rule);
            jobsByTheirHours(rule);
        }
    }

    /** Choices with weights, added up, over a number below. */
    private static String evenText(int n) {
        int[] cells = new int[n * n];
        int choices = 1 + RANDOM.nextInt(2 * n);
        for (int k = 0; k < choices; k++) {
            int weight = 1 + RANDOM.nextInt(RANDOM.nextBoolean() ? 4 : 40);
            int[] columns = RANDOM.ints(0, n).distinct().limit(n).toArray();
            for (int row = 0; row < n; row++) {
                cells[row * n + columns[row]] += weight;
            }
        }
        int below = 1 + RANDOM.nextInt(12);
        return fractions(n, cells, below);
    }

    private static String anyText(int n) {
        int most = 1 + RANDOM.nextInt(12);
        int[] cells = RANDOM.ints(n * n, 0, most + 1).map(cell -> RANDOM.nextInt(3) == 0 ? 0 : cell).toArray();
        return fractions(n, cells, 1 + RANDOM.nextInt(6));
    }

    private static String fractions(int n, int[] cells, int below) {
        StringBuilder told = new StringBuilder();
        for (int i = 0; i < cells.length; i++) {
            told.append(cells[i]).append('/').append(below).append(i % n == n - 1 ? ";" : " ");
        }
        return told.toString();
    }

    private static EvenTables law(String promises) {
        CHECK.in(promises + ", \"" + text + "\"");
        EvenTables x = new EvenTables();
        CHECK.due("the text is taken", Check.tell(x, 0, text) > 0, true);
        return x;
    }

    private static void partsMakeUpTheTable(int rule) {
        EvenTables x = law("promises 7, 12, 13, 14 and 34");
        int n = x.look(0, 0);
        int parts = x.peel(0, rule);
        int[] sums = new int[n * n];
        int all = 0;
        for (int k = 0; k < parts; k++) {
            int weight = x.weight(k, 0);
            int taken = 0;
            all += weight;
            for (int row = 0; row < n; row++) {
                int column = x.part(k, row);
                taken |= 1 << column;
                sums[row * n + column] += weight;
            }
            CHECK.due("each column once in part " + k, taken, (1 << n) - 1);
            CHECK.due("a weight above 0", weight > 0, true);
        }
        for (int i = 0; i < n * n; i++) {
            CHECK.due("cell " + i + " of all parts", sums[i], x.cell(0, i / n, i % n));
        }
        CHECK.due("all weights", all, x.look(0, 2));
        CHECK.due("what is kept", x.kept(2), all);
        CHECK.due("how many", x.kept(1), parts);
        CHECK.due("none behind the last", x.part(parts, 0), NONE);
    }

    private static void shownAreTheParts(int rule) {
        EvenTables x = law("promises 13, 14, 29 and 30");
        int parts = x.peel(0, rule);
        int n = x.kept(3);
        StringBuilder due = new StringBuilder();
        for (int k = 0; k < parts; k++) {
            due.append(x.weight(k, 0)).append(':');
            for (int row = 0; row < n; row++) {
                due.append(x.part(k, row));
            }
            due.append(';');
        }
        CHECK.due("its length", x.show(), due.length());
        // A long text is looked at in places, as an object is not asked more than 512 times.
        for (int i = 0; i < due.length(); i += 1 + due.length() / 100) {
            CHECK.due("out(" + i + ")", x.out(i), due.charAt(i));
        }
        CHECK.due("none behind the last", x.out(due.length()), NONE);
    }

    private static void drawnByWeights(int rule) {
        EvenTables x = law("promises 14 and 15");
        int parts = x.peel(0, rule);
        int begin = 0;
        for (int k = 0; k < parts; k++) {
            int end = begin + x.weight(k, 0);
            CHECK.due("draw(" + begin + ")", x.draw(begin), k);
            CHECK.due("draw(" + (end - 1) + ")", x.draw(end - 1), k);
            begin = end;
        }
        CHECK.due("draw of the margin", x.draw(begin), NONE);
    }

    /** Whatever the parts are, a row has a column for as much weight as its cell. */
    private static void mostAndJointAreCells() {
        EvenTables x = law("promises 7, 16 and 26");
        int n = x.look(0, 0);
        int margin = x.look(0, 2);
        x.peel(0, RANDOM.nextInt(4));
        for (int row = 0; row < n; row++) {
            int greatest = 0;
            int above0 = 0;
            for (int column = 0; column < n; column++) {
                int cell = x.cell(0, row, column);
                greatest = cell > x.cell(0, row, greatest) ? column : greatest;
                above0 += cell > 0 ? 1 : 0;
                int above = x.joint(row, column, row, column, 0);
                int below = x.joint(row, column, row, column, 1);
                CHECK.due("joint of one cell", (long) above * margin, (long) cell * below);
            }
            CHECK.due("most(" + row + ", 0)", x.most(row, 0), greatest);
            CHECK.due("most(" + row + ", 1)", x.most(row, 1), x.cell(0, row, greatest));
            CHECK.due("most(" + row + ", 2)", x.most(row, 2), above0);
        }
    }

    private static void firstPartsArePairings() {
        EvenTables x = law("promises 12, 19 and 21");
        int n = x.look(0, 0);
        x.peel(0, 0);
        for (int row = 0; row < n; row++) {
            CHECK.due("rule 0, row " + row, x.part(0, row), x.paired(0, 1, row));
        }
        int widest = x.widest(0);
        x.peel(0, 1);
        CHECK.due("rule 1, the weight", x.weight(0, 0), widest);
        for (int row = 0; row < n; row++) {
            CHECK.due("rule 1, row " + row, x.part(0, row), x.paired(0, widest, row));
        }
    }

    private static void fewNotMoreThanBound() {
        EvenTables x = law("promises 6, 12, 17 and 24");
        int n = x.look(0, 0);
        int bound = x.bound(0, 0);
        CHECK.due("the bound", bound, x.look(0, 3) - 2 * n + x.look(0, 5) + 1);
        int least = bound;
        for (int rule = 0; rule < 4; rule++) {
            int parts = x.peel(0, rule);
            CHECK.due("rule " + rule + " within the bound", parts <= bound, true);
            least = Math.min(least, parts);
        }
        int sought = x.sought(0, 0);
        CHECK.due("four rules, where they may be", sought == NONE, n > 4);
        CHECK.due("four rules as few as one", sought <= least, true);
        int fewest = x.bound(0, 1);
        CHECK.due("the fewest, where they may be", fewest == NONE, n > 3);
        CHECK.due("none fewer", n > 3 || fewest <= sought, true);
    }

    private static void productOfEvenIsEven() {
        EvenTables x = law("promises 6, 8, 10 and 27");
        if (x.times(0, 0, 1)) {
            long squared = (long) x.look(0, 2) * x.look(0, 2) * x.look(1, 1);
            CHECK.due("its margin", (long) x.look(1, 2) * x.look(0, 1) * x.look(0, 1), squared);
            CHECK.due("uneven(1)", x.uneven(1), NONE);
            CHECK.due("full itself", x.mixing(1) == 1, x.mixing(0) == 1 || x.mixing(0) == 2);
        }
    }

    private static void pairedOrLacking() {
        EvenTables x = law("promises 18 to 23");
        int n = x.look(0, 0);
        for (int least = 0; least < 8; least++) {
            int ways = x.ways(0, least);
            int lack = x.lack(0, least, 0);
            CHECK.due("a pairing by " + least, x.paired(0, least, n - 1) != NONE, ways > 0);
            CHECK.due("no lack by " + least, lack == 0, ways > 0);
            int rows = x.lack(0, least, 1);
            int columns = x.lack(0, least, 2);
            CHECK.due("the lack by " + least, Integer.bitCount(rows) - Integer.bitCount(columns), lack);
            for (int i = 0; i < n * n; i++) {
                boolean other = (rows >> i / n & 1) != 0 && (columns >> i % n & 1) == 0;
                CHECK.due("not joined by " + least, other && x.cell(0, i / n, i % n) >= least, false);
            }
        }
        int widest = x.widest(0);
        CHECK.due("by the widest", x.ways(0, widest) > 0, true);
        CHECK.due("by one more", x.ways(0, widest + 1), 0);
        CHECK.due("something multiplied", x.permanent(0) > 0, widest > 0);
        long together = 0;
        for (int row = 0; row < n; row++) {
            together += x.cell(0, row, (int) x.best(0, 10 + row));
        }
        CHECK.due("the best", x.best(0, 0), together);
        CHECK.due("as good as the widest", together >= (long) n * widest, true);
    }

    private static void turnedBack() {
        EvenTables x = law("promises 6, 11 and 20 to 23");
        int n = x.look(0, 0);
        String before = Edges.slot(x, 0);
        int r = RANDOM.nextInt(n);
        for (int how = 0; how < 6; how++) {
            CHECK.due("turn(0, " + how + ", r, 1)", x.turn(0, how, r, 1), true);
            CHECK.due("its margin", x.look(1, 2), x.look(0, 2));
            CHECK.due("its groups", x.look(1, 5), x.look(0, 5));
            CHECK.due("its ways", x.ways(1, 2), x.ways(0, 2));
            CHECK.due("its widest", x.widest(1), x.widest(0));
            CHECK.due("its best", x.best(1, 0), x.best(0, 0));
            CHECK.due("its permanent", x.permanent(1), x.permanent(0));
            if (how < 4) {
                CHECK.due("turned back", x.turn(1, how, r, 1), true);
            } else {
                // A row comes back to its place, when those that stood behind it have gone behind it one by one.
                for (int i = r; i < n - 1; i++) {
                    x.turn(1, how, r, 1);
                }
            }
            CHECK.due("as it was", Edges.slot(x, 1).equals(before), true);
        }
    }

    private static void sharesOfItself() {
        EvenTables x = law("promises 4, 9 and 10");
        int n = x.look(0, 0);
        String before = Edges.slot(x, 0);
        x.turn(0, 2, 0, 1);
        CHECK.due("a third and two thirds", x.mix(0, 1, 3, 0, 2, 3, 2), true);
        CHECK.due("is the table", Edges.slot(x, 2).equals(before), true);
        CHECK.due("all of it and nothing", x.mix(0, 5, 5, 1, 0, 7, 0), true);
        CHECK.due("is the table", Edges.slot(x, 0).equals(before), true);
        StringBuilder ones = new StringBuilder();
        for (int row = 0; row < n; row++) {
            ones.append(ONES.substring(row * 12, row * 12 + 2 * n - 1)).append(';');
        }
        Check.tell(x, 3, ones.toString());
        CHECK.due("by ones", x.times(0, 3, 3) && Edges.slot(x, 3).equals(before), true);
    }

    private static void roundedKeepsSums() {
        EvenTables x = law("promises 6, 7 and 25");
        int n = x.look(0, 0);
        int below = x.look(0, 1);
        int[] cells = new int[2 * n + 1];
        int[] rounded = new int[2 * n + 1];
        for (int i = 0; i < n * n; i++) {
            int cell = x.cell(0, i / n, i % n);
            int whole = x.rounded(0, i / n, i % n);
            nextTo("cell " + i, whole, cell, below);
            for (int sum : new int[] {i / n, n + i % n, 2 * n}) {
                cells[sum] += cell;
                rounded[sum] += whole;
            }
        }
        for (int sum = 0; sum <= 2 * n; sum++) {
            nextTo("sum " + sum, rounded[sum], cells[sum], below);
        }
    }

    private static void nextTo(String what, int whole, int above, int below) {
        boolean cut = whole == above / below;
        boolean more = above % below != 0 && whole == above / below + 1;
        CHECK.due(what + " is cut or one more", cut || more, true);
    }

    private static void kinOfThoseThatMix() {
        EvenTables x = law("promises 6, 27 and 28");
        int n = x.look(0, 0);
        int all = (1 << n) - 1;
        int together = 0;
        for (int row = 0; row < n; row++) {
            int kin = x.kin(0, row);
            together |= kin;
            CHECK.due("row " + row + " is its own kin", kin >> row & 1, 1);
            for (int other = 0; other < n; other++) {
                CHECK.due("kin are kin of one another", (kin >> other & 1) == 0 || x.kin(0, other) == kin, true);
            }
            CHECK.due("all are kin, if it mixes", x.mixing(0) == NONE || kin == all, true);
        }
        CHECK.due("all rows", together, all);
        CHECK.due("full itself", x.mixing(0) == 1, x.look(0, 3) == n * n);
    }

    private static void hoursAreCells(int rule) {
        EvenTables x = law("promises 7, 31, 32 and 34");
        int n = Math.min(x.look(0, 0), 4);
        int pieces = x.shop(0, rule);
        if (x.look(0, 0) > 4 || x.look(0, 4) == 0) {
            CHECK.due("no shop", pieces, NONE);
            return;
        }
        int[] hours = new int[n * n];
        int begin = 0;
        for (int k = 0; k < pieces; k++) {
            int taken = 0;
            for (int job = 0; job < n; job++) {
                int machine = x.works(job, begin);
                CHECK.due("until the end of piece " + k, x.works(job, begin + x.weight(k, 0) - 1), machine);
                if (machine != NONE) {
                    CHECK.due("a machine has one job", taken >> machine & 1, 0);
                    taken |= 1 << machine;
                    hours[job * n + machine] += x.weight(k, 0);
                }
            }
            begin += x.weight(k, 0);
        }
        int length = 0;
        for (int i = 0; i < n; i++) {
            int row = 0;
            int column = 0;
            for (int j = 0; j < n; j++) {
                CHECK.due("hours of job " + i + " on machine " + j, hours[i * n + j], x.cell(0, i, j));
                row += x.cell(0, i, j);
                column += x.cell(0, j, i);
            }
            length = Math.max(length, Math.max(row, column));
        }
        CHECK.due("LENGTH", x.kept(2), length);
        CHECK.due("all pieces together", begin, length);
        CHECK.due("jobs", x.kept(3), n);
        CHECK.due("behind the end", x.works(0, length), NONE);
    }

    private static void jobsByTheirHours(int rule) {
        EvenTables x = law("promises 32 and 33");
        int n = x.look(0, 0);
        int pieces = x.shop(0, rule);
        for (int job = 0; pieces != NONE && job < n; job++) {
            int begin = 0;
            int done = NONE;
            int count = 0;
            int changes = 0;
            int latest = NONE;
            for (int k = 0; k < pieces; k++) {
                int machine = x.works(job, begin);
                begin += x.weight(k, 0);
                if (machine != NONE) {
                    done = begin - 1;
                    count++;
                    changes += latest == NONE || latest == machine ? 0 : 1;
                    latest = machine;
                }
            }
            CHECK.due("job(" + job + ", 0)", x.job(job, 0), done);
            CHECK.due("job(" + job + ", 1)", x.job(job, 1), count);
            CHECK.due("job(" + job + ", 2)", x.job(job, 2), changes);
        }
    }
}
