/** Tries roundings of a table in their order, until one keeps all bounds. */
final class PlainRounding {
    private final long[][] c;
    private final long below;
    private final int n;
    private final long[][] made;

    PlainRounding(long[][] c, long below) {
        this.c = c;
        this.below = below;
        this.n = c.length;
        this.made = new long[n][n];
    }

    long[][] find() {
        if (!tried(0)) {
            throw new IllegalStateException("there always is one");
        }
        return made;
    }

    private boolean tried(int place) {
        if (place == n * n) {
            return fits(total(c), total(made), 0);
        }
        int i = place / n;
        int j = place % n;
        long cut = c[i][j] / below;
        for (long value = cut; value <= cut + (c[i][j] % below == 0 ? 0 : 1); value++) {
            made[i][j] = value;
            if (rowFits(i, j) && columnFits(i, j) && tried(place + 1)) {
                return true;
            }
        }
        return false;
    }

    private static long total(long[][] cells) {
        long sum = 0;
        for (long[] row : cells) {
            for (long cell : row) {
                sum += cell;
            }
        }
        return sum;
    }

    /** Whether a sum so far can still come to one of its two whole numbers, if up to 'more' can be added. */
    private boolean fits(long exact, long sum, long more) {
        long low = exact / below;
        long high = exact % below == 0 ? low : low + 1;
        return sum <= high && sum + more >= low;
    }

    private boolean rowFits(int i, int last) {
        long exact = 0;
        long sum = 0;
        long more = 0;
        for (int j = 0; j < n; j++) {
            exact += c[i][j];
            sum += j <= last ? made[i][j] : c[i][j] / below;
            more += j > last && c[i][j] % below != 0 ? 1 : 0;
        }
        return fits(exact, sum, more);
    }

    private boolean columnFits(int last, int j) {
        long exact = 0;
        long sum = 0;
        long more = 0;
        for (int i = 0; i < n; i++) {
            exact += c[i][j];
            sum += i <= last ? made[i][j] : c[i][j] / below;
            more += i > last && c[i][j] % below != 0 ? 1 : 0;
        }
        return fits(exact, sum, more);
    }
}
