/** What all tests use: telling texts, comparing answers, the exit code. */
final class Check {
    private int wrong = 0;
    private String where = "";

    void in(String name) {
        where = name;
    }

    void due(String call, long got, long want) {
        if (got != want) {
            wrong++;
            if (wrong <= 40) {
                System.out.println(where + ": " + call + " answered " + got + ", due is " + want);
            }
        }
    }

    void due(String call, boolean got, boolean want) {
        due(call, got ? 1 : 0, want ? 1 : 0);
    }

    void fail(String text) {
        wrong++;
        System.out.println(where + ": " + text);
    }

    boolean failed() {
        return wrong > 0;
    }

    void finish(String test) {
        System.out.println(test + ": " + (wrong == 0 ? "all as due" : wrong + " not as due"));
        if (wrong != 0) {
            System.exit(1);
        }
    }

    /** The five numbers that bring 20 bytes of a text from a place on, filled up with blanks. */
    static int[] fed(String text, int from) {
        int[] numbers = new int[5];
        for (int i = 0; i < 20; i++) {
            int sign = from + i < text.length() ? text.charAt(from + i) & 255 : 32;
            numbers[i / 4] = numbers[i / 4] << 8 | sign;
        }
        return numbers;
    }

    /** Puts a text of up to 600 bytes alone on the tape. */
    static void write(EvenTables x, String text) {
        if (text.length() > 600) {
            throw new IllegalArgumentException("a test's text does not fit on the tape: " + text);
        }
        x.end(0);
        for (int from = 0; from < text.length(); from += 20) {
            int[] f = fed(text, from);
            x.feed(f[0], f[1], f[2], f[3], f[4]);
        }
        x.end(text.length());
    }

    static int tell(EvenTables x, int slot, String text) {
        write(x, text);
        return x.table(slot);
    }
}
