import java.util.Random;

/** Runs of up to 512 calls, by numbers that are the same every time, compared with the plain program call by call. */
public final class PlainRunsTest {
    private static final Check CHECK = new Check();
    private static final int MOST_OF_A_STEP = 40;

    private final Random random;
    private final EvenTables x = new EvenTables();
    private final Plain plain = new Plain();
    private final int mostN;
    private int calls = 0;

    private PlainRunsTest(long seed, int mostN) {
        random = new Random(seed);
        this.mostN = mostN;
    }

    public static void main(String[] args) {
        int runs = args.length > 0 ? Integer.parseInt(args[0]) : 400;
        for (int run = 0; run < runs && !CHECK.failed(); run++) {
            // The plain program lists all choices, so great tables come seldom.
            int mostN = run % 25 == 0 ? 8 : run % 5 == 0 ? 6 : run % 2 == 0 ? 4 : 3;
            new PlainRunsTest(run, mostN).go(run);
        }
        CHECK.finish("PlainRunsTest");
    }

    /** What later calls than the 512th answer is free, so a run ends where one more step could go beyond. */
    private void go(int run) {
        for (int step = 0; calls <= 512 - MOST_OF_A_STEP && !CHECK.failed(); step++) {
            CHECK.in("run " + run + ", step " + step);
            if (step % 30 == 0 || step < 12 && step % 3 == 0) {
                tell(text());
            } else {
                one();
            }
        }
    }

    private void due(String call, long got, long want) {
        calls++;
        CHECK.due(call, got, want);
    }

    private void due(String call, boolean got, boolean want) {
        calls++;
        CHECK.due(call, got, want);
    }

    private void tell(String text) {
        for (int from = 0; from < text.length(); from += 20) {
            int[] f = Check.fed(text, from);
            due("feed", x.feed(f[0], f[1], f[2], f[3], f[4]), plain.feed(f));
        }
        int tapeLength = plain.kept(4);
        int padding = (20 - text.length() % 20) % 20;
        due("end", x.end(tapeLength - padding), plain.end(tapeLength - padding));
        int slot = below(4);
        due("table(" + slot + ") of " + text, x.table(slot), plain.table(slot));
        due("fault(0) of " + text, x.fault(0), plain.fault(0));
        due("fault(1) of " + text, x.fault(1), plain.fault(1));
    }

    private int below(int bound) {
        return random.nextInt(bound);
    }

    /** Mostly 0 .. bound - 1, now and then beyond. */
    private int around(int bound) {
        int kind = below(40);
        if (kind == 0) {
            return -1 - below(2);
        }
        if (kind == 1) {
            return bound + below(3);
        }
        if (kind == 2 && below(4) == 0) {
            return below(2) == 0 ? Integer.MIN_VALUE : Integer.MAX_VALUE;
        }
        return below(bound);
    }

    private String text() {
        int n = 1 + below(mostN);
        int kind = below(10);
        long[][] cells = kind < 6 ? mixture(n) : loose(n, kind == 6 ? 100000 : 12);
        int divisor = kind % 2 == 0 ? 1 : 1 + below(kind == 3 ? 999 : 30);
        StringBuilder text = new StringBuilder();
        for (long[] row : cells) {
            for (long cell : row) {
                text.append(cell % 1000000);
                if (divisor > 1) {
                    text.append('/').append(divisor);
                }
                text.append(below(20) == 0 ? "\n " : " ");
            }
            text.append(';');
        }
        if (kind == 9) {
            spoil(text);
        }
        return text.length() > 580 ? text.substring(0, 580) : text.toString();
    }

    private void spoil(StringBuilder text) {
        String signs = "0123456789/; ;/x\n";
        for (int i = below(4); i > 0; i--) {
            int at = below(text.length());
            if (below(2) == 0) {
                text.setCharAt(at, signs.charAt(below(signs.length())));
            } else {
                text.insert(at, signs.charAt(below(signs.length())));
            }
        }
    }

    private long[][] mixture(int n) {
        long[][] cells = new long[n][n];
        int parts = 1 + below(n * 2);
        int most = below(3) == 0 ? 3 : 30;
        for (int k = 0; k < parts; k++) {
            int[] choice = Plain.choices(n).get(below(Plain.choices(n).size()));
            int weight = 1 + below(most);
            for (int i = 0; i < n; i++) {
                cells[i][choice[i]] += weight;
            }
        }
        return cells;
    }

    private long[][] loose(int n, int most) {
        long[][] cells = new long[n][n];
        for (long[] row : cells) {
            for (int j = 0; j < n; j++) {
                row[j] = below(3) == 0 ? 0 : below(most);
            }
        }
        return cells;
    }

    private int least(int slot) {
        int kind = below(12);
        if (kind == 0) {
            return -1;
        }
        if (kind == 1) {
            return below(2) == 0 ? 99999999 : 100000000;
        }
        calls++;
        int cell = x.cell(slot, below(8), below(8));
        return cell < 0 ? below(20) : cell + below(2);
    }

    private int share() {
        int kind = below(20);
        return kind == 0 ? 9999 : kind == 1 ? 10000 : kind == 2 ? 0 : kind == 3 ? -1 : kind < 7 ? below(9999) : 1 + below(6);
    }

    private void one() {
        int kind = below(34);
        if (kind < 12) {
            ofTables(kind);
        } else if (kind < 24) {
            ofPairings(kind);
        } else {
            ofKept(kind);
        }
    }

    private void ofTables(int kind) {
        int s = around(4);
        int a = around(8);
        int b = around(8);
        switch (kind) {
            case 0:
                due("look " + s + " " + a, x.look(s, a), plain.look(s, a));
                break;
            case 1:
            case 2:
                for (int what = 0; what < 6; what++) {
                    due("look " + s + " " + what, x.look(s, what), plain.look(s, what));
                }
                break;
            case 3:
                due("cell " + s + " " + a + " " + b, x.cell(s, a, b), plain.cell(s, a, b));
                break;
            case 4:
                due("uneven " + s, x.uneven(s), plain.uneven(s));
                break;
            case 5:
            case 6:
                mixed(s, around(4), around(4));
                break;
            case 7:
            case 8:
                int other = around(4);
                int into = around(4);
                due("times " + s + " " + other + " " + into, x.times(s, other, into), plain.times(s, other, into));
                sameCells(into);
                break;
            case 9:
            case 10:
                int how = around(6);
                int to = around(4);
                due("turn " + s + " " + how + " " + a, x.turn(s, how, a, to), plain.turn(s, how, a, to));
                sameCells(to);
                break;
            default:
                wildTape();
                break;
        }
    }

    private void mixed(int s, int other, int into) {
        int p = share();
        int q = share();
        int u = share();
        int v = share();
        due("mix " + s + " " + p + "/" + q + " " + other + " " + u + "/" + v + " " + into,
                x.mix(s, p, q, other, u, v, into), plain.mix(s, p, q, other, u, v, into));
        sameCells(into);
    }

    private void sameCells(int slot) {
        due("below of " + slot, x.look(slot, 1), plain.look(slot, 1));
        due("margin of " + slot, x.look(slot, 2), plain.look(slot, 2));
        int n = Math.max(1, plain.look(slot, 0));
        for (int i = 0; i < 9; i++) {
            int row = below(n);
            int column = below(n);
            due("cell " + slot + " " + row + " " + column, x.cell(slot, row, column), plain.cell(slot, row, column));
        }
    }

    private void wildTape() {
        int[] f = {random.nextInt(), random.nextInt(), random.nextInt(), random.nextInt(), random.nextInt()};
        due("feed", x.feed(f[0], f[1], f[2], f[3], f[4]), plain.feed(f));
        int count = below(3) == 0 ? around(620) : 0;
        due("end " + count, x.end(count), plain.end(count));
        due("kept 4", x.kept(4), plain.kept(4));
    }

    private void ofPairings(int kind) {
        int s = around(4);
        int a = around(8);
        int b = around(8);
        int l = least(s);
        switch (kind) {
            case 12:
                int w = around(2);
                due("bound " + s + " " + w, x.bound(s, w), plain.bound(s, w));
                break;
            case 13:
            case 14:
                int what = around(3);
                due("lack " + s + " " + l + " " + what, x.lack(s, l, what), plain.lack(s, l, what));
                break;
            case 15:
                due("paired " + s + " " + l + " " + a, x.paired(s, l, a), plain.paired(s, l, a));
                break;
            case 16:
                due("ways " + s + " " + l, x.ways(s, l), plain.ways(s, l));
                break;
            case 17:
                due("widest " + s, x.widest(s), plain.widest(s));
                break;
            case 18:
                int of = below(2) == 0 ? around(2) : 10 + around(8);
                due("best " + s + " " + of, x.best(s, of), plain.best(s, of));
                break;
            case 19:
                due("permanent " + s, x.permanent(s), plain.permanent(s));
                break;
            case 20:
                if (below(3) == 0) {
                    int i = around(5);
                    due("sought " + s + " " + i, x.sought(s, i), plain.sought(s, i));
                }
                break;
            case 21:
                due("rounded " + s + " " + a + " " + b, x.rounded(s, a, b), plain.rounded(s, a, b));
                break;
            case 22:
                due("mixing " + s, x.mixing(s), plain.mixing(s));
                break;
            default:
                due("kin " + s + " " + a, x.kin(s, a), plain.kin(s, a));
                break;
        }
    }

    private void ofKept(int kind) {
        int k = around(Math.max(1, plain.kept(1)));
        int a = around(8);
        int what = around(3);
        switch (kind) {
            case 24:
                int s = around(4);
                int rule = around(4);
                due("peel " + s + " " + rule, x.peel(s, rule), plain.peel(s, rule));
                break;
            case 25:
                int from = around(4);
                int by = around(4);
                due("shop " + from + " " + by, x.shop(from, by), plain.shop(from, by));
                break;
            case 26:
                due("part " + k + " " + a, x.part(k, a), plain.part(k, a));
                break;
            case 27:
                due("weight " + k + " " + what, x.weight(k, what), plain.weight(k, what));
                break;
            case 28:
                int r = around(Math.max(1, plain.kept(2)));
                due("draw " + r, x.draw(r), plain.draw(r));
                break;
            case 29:
                jointed(a);
                break;
            case 30:
                due("most " + a + " " + what, x.most(a, what), plain.most(a, what));
                break;
            case 31:
                shownAll();
                break;
            case 32:
                int t = around(Math.max(1, plain.kept(2)));
                int job = around(4);
                due("works " + job + " " + t, x.works(job, t), plain.works(job, t));
                due("job " + job + " " + what, x.job(job, what), plain.job(job, what));
                break;
            default:
                int of = around(5);
                due("kept " + of, x.kept(of), plain.kept(of));
                break;
        }
    }

    private void jointed(int i) {
        calls += 2;
        int k = around(8);
        int j = below(2) == 0 ? x.part(0, i) : around(8);
        int l = below(2) == 0 ? x.part(0, k) : around(8);
        int what = around(2);
        due("joint " + i + " " + j + " " + k + " " + l + " " + what, x.joint(i, j, k, l, what),
                plain.joint(i, j, k, l, what));
    }

    private void shownAll() {
        int length = plain.show();
        due("show", x.show(), length);
        for (int i = 0; i < 12; i++) {
            int at = below(2) == 0 ? around(length + 1) : length - below(12);
            due("out " + at, x.out(at), plain.out(at));
        }
    }
}
