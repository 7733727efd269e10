/** What the tests of edges share: sentences that are named, numbers just outside of bounds, objects made ready. */
final class Edges {
    static final int NONE = EvenTables.NONE;
    /** 3 2 1; 2 2 2; 1 2 3 over 6: even, its MARGIN is 6. */
    static final String THIRDS = "1/2 1/3 1/6;1/3 1/3 1/3;1/6 1/3 1/2;";
    static final int MOST_CELL = 99999999;
    static final int MOST_BELOW = 999999;
    static final int[] NO_SLOTS = outside(0, 3);

    private final Check check = new Check();

    /** The sentence of the document that the checks from here on are of. */
    void sentence(String promise, String words) {
        check.in(promise + ", \"" + words + "\"");
    }

    void due(String call, long got, long want) {
        check.due(call, got, want);
    }

    void due(String call, boolean got, boolean want) {
        check.due(call, got, want);
    }

    void due(String call, String got, String want) {
        if (!got.equals(want)) {
            check.fail(call + " answered " + got + ", due is " + want);
        }
    }

    void finish(String test) {
        check.finish(test);
    }

    /** The numbers next to a range, and those farthest from it. */
    static int[] outside(int least, int most) {
        return new int[] {least - 1, most + 1, Integer.MIN_VALUE, Integer.MAX_VALUE};
    }

    /** A new object with texts in its slots 0, 1, ..; an empty text leaves its slot without a table. */
    EvenTables with(String... texts) {
        EvenTables x = new EvenTables();
        for (int slot = 0; slot < texts.length; slot++) {
            due("the text \"" + texts[slot] + "\" is taken", Check.tell(x, slot, texts[slot]) >= 0, true);
        }
        return x;
    }

    /** n rows of n cells, all of them the same but for those on the slope from the first to the last. */
    static String slope(int n, String on, String off) {
        StringBuilder text = new StringBuilder();
        for (int i = 0; i < n * n; i++) {
            text.append(i / n == i % n ? on : off).append(i % n == n - 1 ? ";" : " ");
        }
        return text.toString();
    }

    /** n, BELOW and all cells of a slot, as one text. */
    static String slot(EvenTables x, int slot) {
        int n = x.look(slot, 0);
        StringBuilder text = new StringBuilder().append(n).append(" over ").append(x.look(slot, 1)).append(":");
        for (int i = 0; i < n * n; i++) {
            text.append(' ').append(x.cell(slot, i / n, i % n));
        }
        return text.toString();
    }

    /** All parts that are kept, as show() tells them; what was shown is another text then. */
    static String shown(EvenTables x) {
        x.show();
        return out(x);
    }

    static String out(EvenTables x) {
        StringBuilder text = new StringBuilder();
        int sign = x.out(0);
        for (int i = 1; sign != NONE; i++) {
            text.append((char) sign);
            sign = x.out(i);
        }
        return text.toString();
    }
}
