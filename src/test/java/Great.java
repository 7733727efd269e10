/** Tables of whole cells beyond what a text can tell: 100 times one table and another one, mixed. */
final class Great {
    private Great() { }

    /** Uses slot 3 on the way, unless that is the one. */
    static boolean tell(EvenTables x, int slot, long[][] cells) {
        int other = slot == 3 ? 2 : 3;
        Check.tell(x, slot, text(cells, true));
        Check.tell(x, other, text(cells, false));
        return x.mix(slot, 100, 1, other, 1, 1, slot);
    }

    static String text(long[][] cells, boolean hundreds) {
        StringBuilder text = new StringBuilder();
        for (long[] row : cells) {
            for (long cell : row) {
                text.append(hundreds ? cell / 100 : cell % 100).append(' ');
            }
            text.append(';');
        }
        return text.toString();
    }
}
