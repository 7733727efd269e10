import java.math.BigInteger;
import java.util.ArrayList;
import java.util.HashMap;
import java.util.HashSet;
import java.util.List;
import java.util.Map;
import java.util.Set;

/**
 * The document once more, in the plainest and slowest way: all choices are listed, numbers are BigIntegers, faults of
 * a text are gathered and the first is picked. Written apart from the program, to compare it with.
 */
final class Plain {
    static final int NONE = -1;
    private static final BigInteger MOST_CELL = BigInteger.valueOf(99999999);
    private static final BigInteger MOST_BELOW = BigInteger.valueOf(999999);
    private static final Map<Integer, List<int[]>> CHOICES = new HashMap<>();

    static final class Grid {
        final int n;
        final BigInteger below;
        final long[][] c;

        Grid(BigInteger below, BigInteger[][] cells) {
            this.n = cells.length;
            this.below = below;
            this.c = new long[n][n];
            for (int i = 0; i < n; i++) {
                for (int j = 0; j < n; j++) {
                    c[i][j] = cells[i][j].longValueExact();
                }
            }
        }

        long row(int i) {
            long sum = 0;
            for (int j = 0; j < n; j++) {
                sum += c[i][j];
            }
            return sum;
        }

        long column(int j) {
            long sum = 0;
            for (int i = 0; i < n; i++) {
                sum += c[i][j];
            }
            return sum;
        }

        boolean even() {
            if (n == 0 || row(0) == 0) {
                return false;
            }
            for (int i = 0; i < n; i++) {
                if (row(i) != row(0) || column(i) != row(0)) {
                    return false;
                }
            }
            return true;
        }
    }

    record Part(int[] columns, long weight) { }

    static final class Refused extends Exception {
        private static final long serialVersionUID = 1;
    }

    private final Grid[] slots = new Grid[4];
    private final List<Integer> tape = new ArrayList<>();
    private int fault = 0;
    private int place = NONE;
    private List<Part> parts = new ArrayList<>();
    private int kind = 0;
    private long whole = 0;
    private int n = 0;
    private int rows = 0;
    private String shown = "";

    Plain() {
        for (int i = 0; i < 4; i++) {
            slots[i] = new Grid(BigInteger.ZERO, new BigInteger[0][0]);
        }
    }

    static List<int[]> choices(int n) {
        return CHOICES.computeIfAbsent(n, k -> {
            List<int[]> all = new ArrayList<>();
            list(new int[k], 0, all);
            return all;
        });
    }

    private static void list(int[] choice, int row, List<int[]> all) {
        if (row == choice.length) {
            all.add(choice.clone());
            return;
        }
        for (int column = 0; column < choice.length; column++) {
            boolean free = true;
            for (int i = 0; i < row; i++) {
                free &= choice[i] != column;
            }
            if (free) {
                choice[row] = column;
                list(choice, row + 1, all);
            }
        }
    }

    private boolean isSlot(int slot) {
        return slot >= 0 && slot < 4;
    }

    private boolean filled(int slot) {
        return isSlot(slot) && slots[slot].n > 0;
    }

    private boolean even(int slot) {
        return filled(slot) && slots[slot].even();
    }

    private boolean has(int slot, int i) {
        return filled(slot) && i >= 0 && i < slots[slot].n;
    }

    private static Grid least(BigInteger below, BigInteger[][] cells) throws Refused {
        BigInteger shared = below;
        for (BigInteger[] row : cells) {
            for (BigInteger cell : row) {
                shared = shared.gcd(cell);
            }
        }
        BigInteger[][] made = new BigInteger[cells.length][cells.length];
        for (int i = 0; i < cells.length; i++) {
            for (int j = 0; j < cells.length; j++) {
                made[i][j] = cells[i][j].divide(shared);
                if (made[i][j].compareTo(MOST_CELL) > 0) {
                    throw new Refused();
                }
            }
        }
        if (below.divide(shared).compareTo(MOST_BELOW) > 0) {
            throw new Refused();
        }
        return new Grid(below.divide(shared), made);
    }

    int feed(int... numbers) {
        if (tape.size() + 20 > 600) {
            return NONE;
        }
        for (int number : numbers) {
            tape.add(number >>> 24);
            tape.add(number >>> 16 & 255);
            tape.add(number >>> 8 & 255);
            tape.add(number & 255);
        }
        return tape.size();
    }

    boolean end(int count) {
        if (count < 0 || count > tape.size()) {
            return false;
        }
        while (tape.size() > count) {
            tape.remove(tape.size() - 1);
        }
        return true;
    }

    int table(int slot) {
        StringBuilder text = new StringBuilder();
        for (int b : tape) {
            text.append((char) b);
        }
        tape.clear();
        fault = 0;
        place = NONE;
        if (!isSlot(slot)) {
            return -2;
        }
        PlainText told = new PlainText(text.toString());
        if (told.fault() != 0) {
            fault = told.fault();
            place = told.place();
            return NONE;
        }
        try {
            slots[slot] = fromFractions(told.fractions());
        } catch (Refused refused) {
            fault = 6;
            place = text.length();
            return NONE;
        }
        return slots[slot].n;
    }

    private static Grid fromFractions(List<List<BigInteger[]>> fractions) throws Refused {
        BigInteger multiple = BigInteger.ONE;
        for (List<BigInteger[]> row : fractions) {
            for (BigInteger[] fraction : row) {
                BigInteger below = fraction[1].divide(fraction[0].gcd(fraction[1]));
                multiple = multiple.multiply(below).divide(multiple.gcd(below));
            }
        }
        int n = fractions.size();
        BigInteger[][] cells = new BigInteger[n][n];
        for (int i = 0; i < n; i++) {
            for (int j = 0; j < n; j++) {
                BigInteger[] fraction = fractions.get(i).get(j);
                cells[i][j] = fraction[0].multiply(multiple).divide(fraction[1]);
            }
        }
        return least(multiple, cells);
    }

    int fault(int what) {
        return what == 0 ? fault : what == 1 ? place : NONE;
    }

    int look(int slot, int what) {
        if (!isSlot(slot) || what < 0 || what > 5) {
            return -2;
        }
        Grid g = slots[slot];
        int above = 0;
        long greatest = 0;
        for (long[] row : g.c) {
            for (long cell : row) {
                above += cell > 0 ? 1 : 0;
                greatest = Math.max(greatest, cell);
            }
        }
        switch (what) {
            case 0: return g.n;
            case 1: return g.below.intValueExact();
            case 2: return g.even() ? (int) g.row(0) : NONE;
            case 3: return above;
            case 4: return (int) greatest;
            default: return groups(g);
        }
    }

    private static int groups(Grid g) {
        int[] name = new int[2 * g.n];
        for (int i = 0; i < name.length; i++) {
            name[i] = i;
        }
        for (int i = 0; i < g.n; i++) {
            for (int j = 0; j < g.n; j++) {
                if (g.c[i][j] > 0) {
                    int old = name[g.n + j];
                    int now = name[i];
                    for (int k = 0; k < name.length; k++) {
                        name[k] = name[k] == old ? now : name[k];
                    }
                }
            }
        }
        Set<Integer> names = new HashSet<>();
        for (int one : name) {
            names.add(one);
        }
        return names.size();
    }

    int cell(int slot, int row, int column) {
        return has(slot, row) && has(slot, column) ? (int) slots[slot].c[row][column] : NONE;
    }

    int uneven(int slot) {
        if (!filled(slot)) {
            return NONE;
        }
        Grid g = slots[slot];
        for (int i = 0; i < g.n; i++) {
            if (g.row(i) != g.row(0)) {
                return i;
            }
        }
        for (int j = 0; j < g.n; j++) {
            if (g.column(j) != g.row(0)) {
                return 8 + j;
            }
        }
        return NONE;
    }

    private static BigInteger big(long number) {
        return BigInteger.valueOf(number);
    }

    boolean mix(int slot, int x, int y, int other, int u, int v, int into) {
        if (!filled(slot) || !filled(other) || !isSlot(into) || slots[slot].n != slots[other].n) {
            return false;
        }
        if (x < 0 || x > 9999 || u < 0 || u > 9999 || y < 1 || y > 9999 || v < 1 || v > 9999) {
            return false;
        }
        Grid a = slots[slot];
        Grid b = slots[other];
        BigInteger one = a.below.multiply(big(y));
        BigInteger two = b.below.multiply(big(v));
        BigInteger multiple = one.multiply(two).divide(one.gcd(two));
        if (multiple.compareTo(big(1000000000L)) > 0) {
            return false;
        }
        BigInteger[][] cells = new BigInteger[a.n][a.n];
        for (int i = 0; i < a.n; i++) {
            for (int j = 0; j < a.n; j++) {
                cells[i][j] = big(x).multiply(big(a.c[i][j])).multiply(multiple).divide(one)
                        .add(big(u).multiply(big(b.c[i][j])).multiply(multiple).divide(two));
                if (cells[i][j].compareTo(big(1000000000000000L)) > 0) {
                    return false;
                }
            }
        }
        return bring(multiple, cells, into);
    }

    private boolean bring(BigInteger below, BigInteger[][] cells, int into) {
        try {
            slots[into] = least(below, cells);
            return true;
        } catch (Refused refused) {
            return false;
        }
    }

    boolean times(int slot, int other, int into) {
        if (!filled(slot) || !filled(other) || !isSlot(into) || slots[slot].n != slots[other].n) {
            return false;
        }
        Grid a = slots[slot];
        Grid b = slots[other];
        BigInteger[][] cells = new BigInteger[a.n][a.n];
        for (int i = 0; i < a.n; i++) {
            for (int j = 0; j < a.n; j++) {
                cells[i][j] = BigInteger.ZERO;
                for (int k = 0; k < a.n; k++) {
                    cells[i][j] = cells[i][j].add(big(a.c[i][k]).multiply(big(b.c[k][j])));
                }
            }
        }
        return bring(a.below.multiply(b.below), cells, into);
    }

    boolean turn(int slot, int how, int r, int into) {
        if (!filled(slot) || !isSlot(into) || how < 0 || how > 5) {
            return false;
        }
        Grid g = slots[slot];
        if (how >= 4 && (r < 0 || r >= g.n)) {
            return false;
        }
        List<Integer> order = new ArrayList<>();
        for (int i = 0; i < g.n; i++) {
            if (how == 2 || how == 3) {
                order.add(0, i);
            } else if (how < 4 || i != r) {
                order.add(i);
            }
        }
        if (how >= 4) {
            order.add(r);
        }
        BigInteger[][] cells = new BigInteger[g.n][g.n];
        for (int i = 0; i < g.n; i++) {
            for (int j = 0; j < g.n; j++) {
                int row = how == 2 || how == 4 ? order.get(i) : i;
                int column = how == 3 || how == 5 ? order.get(j) : j;
                cells[i][j] = big(how == 1 ? g.c[j][i] : g.c[row][column]);
            }
        }
        return bring(g.below, cells, into);
    }

    /** One part by a rule, its cells lessened. */
    static Part take(long[][] c, int rule) {
        int n = c.length;
        int leastRow = -1;
        int leastColumn = -1;
        for (int i = 0; i < n; i++) {
            for (int j = 0; j < n; j++) {
                if (c[i][j] > 0 && (leastRow < 0 || c[i][j] < c[leastRow][leastColumn])) {
                    leastRow = i;
                    leastColumn = j;
                }
            }
        }
        int[] found = null;
        long foundLeast = 0;
        long foundSum = 0;
        for (int[] choice : choices(n)) {
            long least = Long.MAX_VALUE;
            long sum = 0;
            for (int i = 0; i < n; i++) {
                least = Math.min(least, c[i][choice[i]]);
                sum += c[i][choice[i]];
            }
            boolean better = found == null || rule == 1 && least > foundLeast || rule == 3 && sum > foundSum;
            if (least > 0 && better && (rule != 2 || choice[leastRow] == leastColumn)) {
                found = choice;
                foundLeast = least;
                foundSum = sum;
                if (rule == 0 || rule == 2) {
                    break;
                }
            }
        }
        for (int i = 0; i < n; i++) {
            c[i][found[i]] -= foundLeast;
        }
        return new Part(found, foundLeast);
    }

    private static long[][] copy(long[][] c) {
        long[][] made = new long[c.length][];
        for (int i = 0; i < c.length; i++) {
            made[i] = c[i].clone();
        }
        return made;
    }

    static List<Part> peeled(long[][] cells, int... rules) {
        long[][] c = copy(cells);
        List<Part> taken = new ArrayList<>();
        while (true) {
            long left = 0;
            for (long cell : c[0]) {
                left += cell;
            }
            if (left == 0) {
                return taken;
            }
            taken.add(take(c, rules[Math.min(taken.size(), rules.length - 1)]));
        }
    }

    int peel(int slot, int rule) {
        if (!even(slot) || rule < 0 || rule > 3) {
            return NONE;
        }
        Grid g = slots[slot];
        parts = peeled(g.c, rule);
        kind = 1;
        whole = g.row(0);
        n = g.n;
        rows = g.n;
        return parts.size();
    }

    int part(int k, int row) {
        return k >= 0 && k < parts.size() && row >= 0 && row < rows ? parts.get(k).columns()[row] : NONE;
    }

    private int reduced(long above, boolean upper) {
        long shared = big(above).gcd(big(whole)).longValueExact();
        return (int) ((upper ? above : whole) / shared);
    }

    int weight(int k, int what) {
        if (k < 0 || k >= parts.size() || what < 0 || what > 2) {
            return NONE;
        }
        long own = parts.get(k).weight();
        return what == 0 ? (int) own : reduced(own, what == 1);
    }

    int draw(int r) {
        long end = 0;
        for (int k = 0; k < parts.size(); k++) {
            end += parts.get(k).weight();
            if (r >= 0 && r < end) {
                return k;
            }
        }
        return NONE;
    }

    private boolean isRow(int row) {
        return kind != 0 && row >= 0 && row < rows;
    }

    int joint(int i, int j, int k, int l, int what) {
        if (!isRow(i) || !isRow(j) || !isRow(k) || !isRow(l) || what < 0 || what > 1) {
            return NONE;
        }
        long sum = 0;
        for (Part part : parts) {
            if (part.columns()[i] == j && part.columns()[k] == l) {
                sum += part.weight();
            }
        }
        return reduced(sum, what == 0);
    }

    int bound(int slot, int what) {
        if (!even(slot) || what < 0 || what > 1 || what == 1 && slots[slot].n > 3) {
            return NONE;
        }
        if (what == 0) {
            return look(slot, 3) - 2 * slots[slot].n + look(slot, 5) + 1;
        }
        return fewest(slots[slot].c);
    }

    /** One weight is tried in full; the cells settle the others. */
    private static int fewest(long[][] c) {
        if (c.length == 1) {
            return 1;
        }
        if (c.length == 2) {
            return (c[0][0] > 0 ? 1 : 0) + (c[0][1] > 0 ? 1 : 0);
        }
        int fewest = 7;
        for (long w = 0; w <= c[0][0]; w++) {
            long w021 = c[0][0] - w;
            long w102 = c[2][2] - w;
            long w120 = c[0][1] - w102;
            long w210 = c[1][1] - w;
            long w201 = c[0][2] - w210;
            long[] all = {w, w021, w102, w120, w210, w201};
            boolean good = w102 + w201 == c[1][0] && w120 + w021 == c[1][2] && w120 + w210 == c[2][0]
                    && w021 + w201 == c[2][1];
            int count = 0;
            for (long one : all) {
                good &= one >= 0;
                count += one > 0 ? 1 : 0;
            }
            if (good) {
                fewest = Math.min(fewest, count);
            }
        }
        return fewest;
    }

    private boolean isLeast(int least) {
        return least >= 0 && least <= 99999999;
    }

    int lack(int slot, int least, int what) {
        if (!filled(slot) || !isLeast(least) || what < 0 || what > 2) {
            return NONE;
        }
        Grid g = slots[slot];
        int[] found = {-1, 0, 0};
        for (int set = 0; set < 1 << g.n; set++) {
            int columns = 0;
            for (int i = 0; i < g.n; i++) {
                for (int j = 0; j < g.n; j++) {
                    if ((set & 1 << i) != 0 && g.c[i][j] >= least) {
                        columns |= 1 << j;
                    }
                }
            }
            int lack = Integer.bitCount(set) - Integer.bitCount(columns);
            boolean fewer = Integer.bitCount(set) < Integer.bitCount(found[1]);
            if (lack > found[0] || lack == found[0] && fewer) {
                found = new int[] {lack, set, columns};
            }
        }
        return found[what];
    }

    private List<int[]> pairings(int slot, int least) {
        Grid g = slots[slot];
        List<int[]> all = new ArrayList<>();
        for (int[] choice : choices(g.n)) {
            boolean good = true;
            for (int i = 0; i < g.n; i++) {
                good &= g.c[i][choice[i]] >= least;
            }
            if (good) {
                all.add(choice);
            }
        }
        return all;
    }

    int paired(int slot, int least, int row) {
        if (!has(slot, row) || !isLeast(least)) {
            return NONE;
        }
        List<int[]> all = pairings(slot, least);
        return all.isEmpty() ? NONE : all.get(0)[row];
    }

    int ways(int slot, int least) {
        return filled(slot) && isLeast(least) ? pairings(slot, least).size() : NONE;
    }

    int widest(int slot) {
        if (!filled(slot)) {
            return NONE;
        }
        long found = 0;
        for (int[] choice : choices(slots[slot].n)) {
            long least = Long.MAX_VALUE;
            for (int i = 0; i < choice.length; i++) {
                least = Math.min(least, slots[slot].c[i][choice[i]]);
            }
            found = Math.max(found, least);
        }
        return (int) found;
    }

    long best(int slot, int what) {
        if (!filled(slot) || what != 0 && (what < 10 || what >= 10 + slots[slot].n)) {
            return NONE;
        }
        long greatest = -1;
        int[] found = null;
        for (int[] choice : choices(slots[slot].n)) {
            long sum = 0;
            for (int i = 0; i < choice.length; i++) {
                sum += slots[slot].c[i][choice[i]];
            }
            if (sum > greatest) {
                greatest = sum;
                found = choice;
            }
        }
        return what == 0 ? greatest : found[what - 10];
    }

    long permanent(int slot) {
        if (!filled(slot)) {
            return NONE;
        }
        Grid g = slots[slot];
        BigInteger[] sums = new BigInteger[1 << g.n];
        sums[0] = BigInteger.ONE;
        for (int set = 1; set < sums.length; set++) {
            sums[set] = BigInteger.ZERO;
            for (int j = 0; j < g.n; j++) {
                if ((set & 1 << j) != 0) {
                    BigInteger cell = big(g.c[Integer.bitCount(set) - 1][j]);
                    sums[set] = sums[set].add(cell.multiply(sums[set & ~(1 << j)]));
                }
            }
        }
        for (BigInteger sum : sums) {
            if (sum.bitLength() > 63) {
                return -2;
            }
        }
        return sums[sums.length - 1].longValueExact();
    }

    int sought(int slot, int what) {
        if (!even(slot) || slots[slot].n > 4 || what < 0 || what > 4) {
            return NONE;
        }
        return soughtWays(slot)[what];
    }

    int[] soughtWays(int slot) {
        int[] found = {1000, 0, 0, 0, 0};
        for (int code = 0; code < 256; code++) {
            int[] rules = {code / 64, code / 16 % 4, code / 4 % 4, code % 4};
            int count = peeled(slots[slot].c, rules).size();
            if (count < found[0]) {
                found = new int[] {count, rules[0], rules[1], rules[2], rules[3]};
            }
        }
        return found;
    }

    int rounded(int slot, int row, int column) {
        if (!has(slot, row) || !has(slot, column)) {
            return NONE;
        }
        return (int) new PlainRounding(slots[slot].c, slots[slot].below.longValueExact()).find()[row][column];
    }

    int most(int row, int what) {
        if (!isRow(row) || what < 0 || what > 2) {
            return NONE;
        }
        long[] sums = new long[rows];
        for (Part part : parts) {
            sums[part.columns()[row]] += part.weight();
        }
        int found = 0;
        int columns = 0;
        for (int j = 0; j < rows; j++) {
            found = sums[j] > sums[found] ? j : found;
            columns += sums[j] > 0 ? 1 : 0;
        }
        return what == 0 ? found : what == 1 ? (int) sums[found] : columns;
    }

    private static boolean[][] above(Grid g) {
        boolean[][] a = new boolean[g.n][g.n];
        for (int i = 0; i < g.n; i++) {
            for (int j = 0; j < g.n; j++) {
                a[i][j] = g.c[i][j] > 0;
            }
        }
        return a;
    }

    int mixing(int slot) {
        if (!filled(slot)) {
            return NONE;
        }
        boolean[][] a = above(slots[slot]);
        boolean[][] power = a;
        for (int m = 1; m <= 64; m++) {
            boolean full = true;
            boolean[][] next = new boolean[a.length][a.length];
            for (int i = 0; i < a.length; i++) {
                for (int j = 0; j < a.length; j++) {
                    full &= power[i][j];
                    for (int k = 0; k < a.length; k++) {
                        next[i][j] |= power[i][k] && a[k][j];
                    }
                }
            }
            if (full) {
                return m;
            }
            power = next;
        }
        return NONE;
    }

    int kin(int slot, int row) {
        if (!has(slot, row)) {
            return NONE;
        }
        boolean[][] a = above(slots[slot]);
        for (int k = 0; k < a.length; k++) {
            a[k][k] = true;
        }
        for (int k = 0; k < a.length; k++) {
            for (int i = 0; i < a.length; i++) {
                for (int j = 0; j < a.length; j++) {
                    a[i][j] |= a[i][k] && a[k][j];
                }
            }
        }
        int bits = 0;
        for (int j = 0; j < a.length; j++) {
            bits |= a[row][j] && a[j][row] ? 1 << j : 0;
        }
        return bits;
    }

    int show() {
        StringBuilder text = new StringBuilder();
        for (Part part : parts) {
            text.append(part.weight()).append(':');
            for (int column : part.columns()) {
                text.append(column);
            }
            text.append(';');
        }
        shown = text.toString();
        return shown.length();
    }

    int out(int i) {
        return i >= 0 && i < shown.length() ? shown.charAt(i) : NONE;
    }

    int shop(int slot, int rule) {
        if (!filled(slot) || slots[slot].n > 4 || rule < 0 || rule > 3 || look(slot, 4) == 0) {
            return NONE;
        }
        Grid g = slots[slot];
        long length = 0;
        for (int i = 0; i < g.n; i++) {
            length = Math.max(length, Math.max(g.row(i), g.column(i)));
        }
        long[][] c = new long[2 * g.n][2 * g.n];
        for (int i = 0; i < g.n; i++) {
            c[i][g.n + i] = length - g.row(i);
            c[g.n + i][i] = length - g.column(i);
            for (int j = 0; j < g.n; j++) {
                c[i][j] = g.c[i][j];
                c[g.n + j][g.n + i] = g.c[i][j];
            }
        }
        parts = peeled(c, rule);
        kind = 2;
        whole = length;
        n = g.n;
        rows = 2 * g.n;
        return parts.size();
    }

    int works(int job, int t) {
        int piece = draw(t);
        if (kind != 2 || job < 0 || job >= n || piece == NONE) {
            return NONE;
        }
        int column = parts.get(piece).columns()[job];
        return column < n ? column : NONE;
    }

    int job(int job, int what) {
        if (kind != 2 || job < 0 || job >= n || what < 0 || what > 2) {
            return NONE;
        }
        List<Integer> machines = new ArrayList<>();
        int hour = 0;
        int last = NONE;
        for (Part part : parts) {
            hour += part.weight();
            if (part.columns()[job] < n) {
                machines.add(part.columns()[job]);
                last = hour - 1;
            }
        }
        int moves = 0;
        for (int i = 1; i < machines.size(); i++) {
            moves += machines.get(i).equals(machines.get(i - 1)) ? 0 : 1;
        }
        return what == 0 ? last : what == 1 ? machines.size() : moves;
    }

    int kept(int what) {
        switch (what) {
            case 0: return kind;
            case 1: return parts.size();
            case 2: return (int) whole;
            case 3: return n;
            case 4: return tape.size();
            default: return NONE;
        }
    }
}
