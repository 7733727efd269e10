import java.util.Random;

/** SOUGHT, FEWEST, BOUND and ROUNDED of many small tables, where ties and bounds come often, against the plain program. */
public final class SearchesTest {
    private static final Check CHECK = new Check();
    private static final Random RANDOM = new Random(2024);

    public static void main(String[] args) {
        for (int round = 0; round < 1500; round++) {
            CHECK.in("sought, round " + round);
            sought();
        }
        for (int round = 0; round < 3000; round++) {
            CHECK.in("rounded, round " + round);
            rounded(2 + RANDOM.nextInt(round % 10 == 0 ? 6 : 4));
        }
        CHECK.finish("SearchesTest");
    }

    private static void sought() {
        int n = RANDOM.nextInt(4) > 0 ? 4 : 2 + RANDOM.nextInt(2);
        long[][] cells = new long[n][n];
        int most = 1 + RANDOM.nextInt(12);
        for (int k = 2 + RANDOM.nextInt(9); k > 0; k--) {
            int[] choice = Plain.choices(n).get(RANDOM.nextInt(Plain.choices(n).size()));
            int weight = 1 + RANDOM.nextInt(most);
            for (int i = 0; i < n; i++) {
                cells[i][choice[i]] += weight;
            }
        }
        EvenTables x = new EvenTables();
        Plain plain = new Plain();
        String text = text(cells, 1);
        tell(x, plain, text);
        int[] ways = plain.soughtWays(0);
        for (int what = 0; what < 5; what++) {
            CHECK.due("sought(0, " + what + ") of " + text, x.sought(0, what), ways[what]);
        }
        CHECK.due("bound(0, 0) of " + text, x.bound(0, 0), plain.bound(0, 0));
        CHECK.due("bound(0, 1) of " + text, x.bound(0, 1), plain.bound(0, 1));
        for (int rule = 0; rule < 4; rule++) {
            CHECK.due("not more than BOUND", x.peel(0, rule) <= x.bound(0, 0), true);
        }
    }

    private static void rounded(int n) {
        long[][] cells = new long[n][n];
        int below = 2 + RANDOM.nextInt(5);
        int zeros = RANDOM.nextInt(4);
        for (int i = 0; i < n * n; i++) {
            cells[i / n][i % n] = RANDOM.nextInt(4) < zeros ? 0 : RANDOM.nextInt(2 * below);
        }
        EvenTables x = new EvenTables();
        Plain plain = new Plain();
        String text = text(cells, below);
        tell(x, plain, text);
        for (int i = 0; i < n * n; i++) {
            CHECK.due("rounded " + i + " of " + text, x.rounded(0, i / n, i % n), plain.rounded(0, i / n, i % n));
        }
    }

    private static String text(long[][] cells, int below) {
        StringBuilder text = new StringBuilder();
        for (long[] row : cells) {
            for (long cell : row) {
                text.append(cell).append('/').append(below).append(' ');
            }
            text.append(';');
        }
        return text.toString();
    }

    private static void tell(EvenTables x, Plain plain, String text) {
        Check.tell(x, 0, text);
        for (int from = 0; from < text.length(); from += 20) {
            plain.feed(Check.fed(text, from));
        }
        plain.table(0);
    }
}
