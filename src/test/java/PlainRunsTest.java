import java.util.Random;

/** Runs of 512 calls each, by numbers that are the same every time, compared with the plain program call by call. */
public final class PlainRunsTest {
    private static final Check CHECK = new Check();

    private final Random random;
    private final EvenTables x = new EvenTables();
    private final Plain plain = new Plain();
    private final int mostN;

    private PlainRunsTest(long seed, int mostN) {
        random = new Random(seed);
        this.mostN = mostN;
    }

    public static void main(String[] args) {
        int runs = args.length > 0 ? Integer.parseInt(args[0]) : 150;
        for (int run = 0; run < runs && !CHECK.failed(); run++) {
            // The plain program lists all choices, so great tables come seldom.
            int mostN = run % 25 == 0 ? 8 : run % 5 == 0 ? 6 : run % 2 == 0 ? 4 : 3;
            new PlainRunsTest(run, mostN).go(run);
        }
        CHECK.finish("PlainRunsTest");
    }

    private void go(int run) {
        int tables = 0;
        for (int call = 0; call < 512 && !CHECK.failed(); call++) {
            CHECK.in("run " + run + ", call " + call);
            if (call % 40 == 0 || call < 12 && call % 3 == 0) {
                call += tell(text());
                tables++;
            } else {
                one();
            }
        }
    }

    private int tell(String text) {
        int calls = 2;
        for (int from = 0; from < text.length(); from += 20) {
            int[] f = Check.fed(text, from);
            CHECK.due("feed", x.feed(f[0], f[1], f[2], f[3], f[4]), plain.feed(f));
            calls++;
        }
        int tapeLength = plain.kept(4);
        int padding = (20 - text.length() % 20) % 20;
        CHECK.due("end", x.end(tapeLength - padding), plain.end(tapeLength - padding));
        int slot = below(4);
        CHECK.due("table(" + slot + ") of " + text, x.table(slot), plain.table(slot));
        CHECK.due("fault(0) of " + text, x.fault(0), plain.fault(0));
        CHECK.due("fault(1) of " + text, x.fault(1), plain.fault(1));
        return calls;
    }

    private int below(int bound) {
        return random.nextInt(bound);
    }

    /** Mostly 0 .. bound - 1, now and then beyond. */
    private int around(int bound) {
        int kind = below(40);
        if (kind == 0) {
            return -1 - below(2);
        }
        if (kind == 1) {
            return bound + below(3);
        }
        if (kind == 2 && below(4) == 0) {
            return below(2) == 0 ? Integer.MIN_VALUE : Integer.MAX_VALUE;
        }
        return below(bound);
    }

    private String text() {
        int n = 1 + below(mostN);
        int kind = below(10);
        long[][] cells = kind < 6 ? mixture(n) : loose(n, kind == 6 ? 100000 : 12);
        int divisor = kind % 2 == 0 ? 1 : 1 + below(kind == 3 ? 999 : 30);
        StringBuilder text = new StringBuilder();
        for (long[] row : cells) {
            for (long cell : row) {
                text.append(cell % 1000000);
                if (divisor > 1) {
                    text.append('/').append(divisor);
                }
                text.append(below(20) == 0 ? "\n " : " ");
            }
            text.append(';');
        }
        if (kind == 9) {
            spoil(text);
        }
        return text.length() > 580 ? text.substring(0, 580) : text.toString();
    }

    private void spoil(StringBuilder text) {
        String signs = "0123456789/; ;/x\n";
        for (int i = below(4); i > 0; i--) {
            int at = below(text.length());
            if (below(2) == 0) {
                text.setCharAt(at, signs.charAt(below(signs.length())));
            } else {
                text.insert(at, signs.charAt(below(signs.length())));
            }
        }
    }

    private long[][] mixture(int n) {
        long[][] cells = new long[n][n];
        int parts = 1 + below(n * 2);
        int most = below(3) == 0 ? 3 : 30;
        for (int k = 0; k < parts; k++) {
            int[] choice = Plain.choices(n).get(below(Plain.choices(n).size()));
            int weight = 1 + below(most);
            for (int i = 0; i < n; i++) {
                cells[i][choice[i]] += weight;
            }
        }
        return cells;
    }

    private long[][] loose(int n, int most) {
        long[][] cells = new long[n][n];
        for (long[] row : cells) {
            for (int j = 0; j < n; j++) {
                row[j] = below(3) == 0 ? 0 : below(most);
            }
        }
        return cells;
    }

    private int least(int slot) {
        int kind = below(12);
        if (kind == 0) {
            return -1;
        }
        if (kind == 1) {
            return below(2) == 0 ? 99999999 : 100000000;
        }
        int cell = x.cell(slot, below(8), below(8));
        return cell < 0 ? below(20) : cell + below(2);
    }

    private int share() {
        int kind = below(20);
        return kind == 0 ? 9999 : kind == 1 ? 10000 : kind == 2 ? 0 : kind == 3 ? -1 : kind < 7 ? below(9999) : 1 + below(6);
    }

    private void one() {
        int kind = below(34);
        if (kind < 12) {
            ofTables(kind);
        } else if (kind < 24) {
            ofPairings(kind);
        } else {
            ofKept(kind);
        }
    }

    private void ofTables(int kind) {
        int s = around(4);
        int a = around(8);
        int b = around(8);
        switch (kind) {
            case 0:
                CHECK.due("look " + s + " " + a, x.look(s, a), plain.look(s, a));
                break;
            case 1:
            case 2:
                for (int what = 0; what < 6; what++) {
                    CHECK.due("look " + s + " " + what, x.look(s, what), plain.look(s, what));
                }
                break;
            case 3:
                CHECK.due("cell " + s + " " + a + " " + b, x.cell(s, a, b), plain.cell(s, a, b));
                break;
            case 4:
                CHECK.due("uneven " + s, x.uneven(s), plain.uneven(s));
                break;
            case 5:
            case 6:
                mixed(s, around(4), around(4));
                break;
            case 7:
            case 8:
                int other = around(4);
                int into = around(4);
                CHECK.due("times " + s + " " + other + " " + into, x.times(s, other, into), plain.times(s, other, into));
                sameCells();
                break;
            case 9:
            case 10:
                int how = around(6);
                int to = around(4);
                CHECK.due("turn " + s + " " + how + " " + a, x.turn(s, how, a, to), plain.turn(s, how, a, to));
                sameCells();
                break;
            default:
                wildTape();
                break;
        }
    }

    private void mixed(int s, int other, int into) {
        int p = share();
        int q = share();
        int u = share();
        int v = share();
        CHECK.due("mix " + s + " " + p + "/" + q + " " + other + " " + u + "/" + v + " " + into,
                x.mix(s, p, q, other, u, v, into), plain.mix(s, p, q, other, u, v, into));
        sameCells();
    }

    private void sameCells() {
        for (int slot = 0; slot < 4; slot++) {
            CHECK.due("below of " + slot, x.look(slot, 1), plain.look(slot, 1));
            for (int i = 0; i < 8; i++) {
                for (int j = 0; j < 8; j++) {
                    CHECK.due("cell " + slot + " " + i + " " + j, x.cell(slot, i, j), plain.cell(slot, i, j));
                }
            }
        }
    }

    private void wildTape() {
        int[] f = {random.nextInt(), random.nextInt(), random.nextInt(), random.nextInt(), random.nextInt()};
        CHECK.due("feed", x.feed(f[0], f[1], f[2], f[3], f[4]), plain.feed(f));
        int count = below(3) == 0 ? around(620) : 0;
        CHECK.due("end " + count, x.end(count), plain.end(count));
        CHECK.due("kept 4", x.kept(4), plain.kept(4));
    }

    private void ofPairings(int kind) {
        int s = around(4);
        int a = around(8);
        int b = around(8);
        int l = least(s);
        switch (kind) {
            case 12:
                int w = around(2);
                CHECK.due("bound " + s + " " + w, x.bound(s, w), plain.bound(s, w));
                break;
            case 13:
            case 14:
                int what = around(3);
                CHECK.due("lack " + s + " " + l + " " + what, x.lack(s, l, what), plain.lack(s, l, what));
                break;
            case 15:
                CHECK.due("paired " + s + " " + l + " " + a, x.paired(s, l, a), plain.paired(s, l, a));
                break;
            case 16:
                CHECK.due("ways " + s + " " + l, x.ways(s, l), plain.ways(s, l));
                break;
            case 17:
                CHECK.due("widest " + s, x.widest(s), plain.widest(s));
                break;
            case 18:
                int of = below(2) == 0 ? around(2) : 10 + around(8);
                CHECK.due("best " + s + " " + of, x.best(s, of), plain.best(s, of));
                break;
            case 19:
                CHECK.due("permanent " + s, x.permanent(s), plain.permanent(s));
                break;
            case 20:
                if (below(3) == 0) {
                    int i = around(5);
                    CHECK.due("sought " + s + " " + i, x.sought(s, i), plain.sought(s, i));
                }
                break;
            case 21:
                CHECK.due("rounded " + s + " " + a + " " + b, x.rounded(s, a, b), plain.rounded(s, a, b));
                break;
            case 22:
                CHECK.due("mixing " + s, x.mixing(s), plain.mixing(s));
                break;
            default:
                CHECK.due("kin " + s + " " + a, x.kin(s, a), plain.kin(s, a));
                break;
        }
    }

    private void ofKept(int kind) {
        int k = around(Math.max(1, plain.kept(1)));
        int a = around(8);
        int what = around(3);
        switch (kind) {
            case 24:
                int s = around(4);
                int rule = around(4);
                CHECK.due("peel " + s + " " + rule, x.peel(s, rule), plain.peel(s, rule));
                break;
            case 25:
                int from = around(4);
                int by = around(4);
                CHECK.due("shop " + from + " " + by, x.shop(from, by), plain.shop(from, by));
                break;
            case 26:
                CHECK.due("part " + k + " " + a, x.part(k, a), plain.part(k, a));
                break;
            case 27:
                CHECK.due("weight " + k + " " + what, x.weight(k, what), plain.weight(k, what));
                break;
            case 28:
                int r = around(Math.max(1, plain.kept(2)));
                CHECK.due("draw " + r, x.draw(r), plain.draw(r));
                break;
            case 29:
                jointed(a);
                break;
            case 30:
                CHECK.due("most " + a + " " + what, x.most(a, what), plain.most(a, what));
                break;
            case 31:
                shownAll();
                break;
            case 32:
                int t = around(Math.max(1, plain.kept(2)));
                int job = around(4);
                CHECK.due("works " + job + " " + t, x.works(job, t), plain.works(job, t));
                CHECK.due("job " + job + " " + what, x.job(job, what), plain.job(job, what));
                break;
            default:
                int of = around(5);
                CHECK.due("kept " + of, x.kept(of), plain.kept(of));
                break;
        }
    }

    private void jointed(int i) {
        int k = around(8);
        int j = below(2) == 0 ? x.part(0, i) : around(8);
        int l = below(2) == 0 ? x.part(0, k) : around(8);
        int what = around(2);
        CHECK.due("joint " + i + " " + j + " " + k + " " + l + " " + what, x.joint(i, j, k, l, what),
                plain.joint(i, j, k, l, what));
    }

    private void shownAll() {
        int length = plain.show();
        CHECK.due("show", x.show(), length);
        for (int i = -1; i <= length; i++) {
            CHECK.due("out " + i, x.out(i), plain.out(i));
        }
    }
}
