import java.util.Random;

/** Cells near their bounds, where ints would be too small for sums and products, compared with the plain program. */
public final class GreatNumbersTest {
    private static final Check CHECK = new Check();
    private static final Random RANDOM = new Random(77);

    public static void main(String[] args) {
        for (int round = 0; round < 600; round++) {
            CHECK.in("round " + round);
            one(1 + RANDOM.nextInt(4));
        }
        CHECK.finish("GreatNumbersTest");
    }

    private static long cell() {
        int kind = RANDOM.nextInt(5);
        return kind == 0 ? 0 : kind == 1 ? 99999999 : 99999999 - RANDOM.nextInt(kind == 2 ? 10 : 90000000);
    }

    private static void one(int n) {
        long[][] cells = new long[n][n];
        for (int i = 0; i < n * n; i++) {
            cells[i / n][i % n] = cell();
        }
        EvenTables x = new EvenTables();
        Plain plain = new Plain();
        Great.tell(x, 0, cells);
        tellPlain(plain, cells);
        for (int i = 0; i < n * n; i++) {
            CHECK.due("cell " + i, x.cell(0, i / n, i % n), plain.cell(0, i / n, i % n));
        }
        for (int what = 0; what < 6; what++) {
            CHECK.due("look(0, " + what + ")", x.look(0, what), plain.look(0, what));
        }
        CHECK.due("best(0, 0)", x.best(0, 0), plain.best(0, 0));
        CHECK.due("best(0, 10)", x.best(0, 10), plain.best(0, 10));
        CHECK.due("permanent(0)", x.permanent(0), plain.permanent(0));
        CHECK.due("widest(0)", x.widest(0), plain.widest(0));
        int rule = RANDOM.nextInt(4);
        CHECK.due("shop(0, " + rule + ")", x.shop(0, rule), plain.shop(0, rule));
        kept(x, plain);
        int down = 1 + RANDOM.nextInt(9999);
        CHECK.due("mix", x.mix(0, down, 9999, 0, 1, down, 1), plain.mix(0, down, 9999, 0, 1, down, 1));
        CHECK.due("mix", x.mix(0, 1, 9973, 0, 0, 1, 2), plain.mix(0, 1, 9973, 0, 0, 1, 2));
        for (int i = 0; i < n * n; i++) {
            CHECK.due("rounded", x.rounded(2, i / n, i % n), plain.rounded(2, i / n, i % n));
        }
        CHECK.due("times", x.times(0, 2, 3), plain.times(0, 2, 3));
    }

    private static void tellPlain(Plain plain, long[][] cells) {
        for (int slot : new int[] {0, 3}) {
            String text = Great.text(cells, slot == 0);
            for (int from = 0; from < text.length(); from += 20) {
                plain.feed(Check.fed(text, from));
            }
            plain.table(slot);
        }
        plain.mix(0, 100, 1, 3, 1, 1, 0);
    }

    private static void kept(EvenTables x, Plain plain) {
        CHECK.due("kept(2)", x.kept(2), plain.kept(2));
        int length = plain.show();
        CHECK.due("show()", x.show(), length);
        // A few bytes at each end: an object answers 512 calls, and no more are due.
        for (int i = 0; i <= length; i += i == 60 && length > 120 ? length - 120 : 1) {
            CHECK.due("out(" + i + ")", x.out(i), plain.out(i));
        }
        for (int job = 0; job < 4; job++) {
            for (int what = 0; what < 3; what++) {
                CHECK.due("job " + job + " " + what, x.job(job, what), plain.job(job, what));
                CHECK.due("most", x.most(job, what), plain.most(job, what));
                CHECK.due("weight", x.weight(job, what), plain.weight(job, what));
            }
            int t = plain.kept(2) - 1 - job * 30000000;
            CHECK.due("works", x.works(job, t), plain.works(job, t));
        }
    }
}
