/** All that can be asked of an object, part by part, to tell what a call changed. */
record State(String slots, String kept, String shown, String fault, String tape) {
    /** The tape's bytes can't be asked, so they are made a table at last: nothing else is asked of the object then. */
    static State of(EvenTables x) {
        String slots = slots(x);
        String kept = kept(x);
        String shown = Edges.out(x);
        String fault = x.fault(0) + " at " + x.fault(1);
        return new State(slots, kept, shown, fault, tape(x));
    }

    private static String slots(EvenTables x) {
        StringBuilder text = new StringBuilder();
        for (int slot = 0; slot < 4; slot++) {
            text.append(Edges.slot(x, slot)).append(", margin ").append(x.look(slot, 2)).append("; ");
        }
        return text.toString();
    }

    private static String kept(EvenTables x) {
        StringBuilder text = new StringBuilder();
        for (int what = 0; what < 4; what++) {
            text.append(x.kept(what)).append(' ');
        }
        int rows = x.kept(0) == 2 ? 2 * x.kept(3) : x.kept(3);
        for (int k = 0; k < x.kept(1); k++) {
            text.append(x.weight(k, 0)).append(':');
            for (int row = 0; row < rows; row++) {
                text.append(x.part(k, row));
            }
            text.append(';');
        }
        return text.toString();
    }

    private static String tape(EvenTables x) {
        int length = x.kept(4);
        int n = x.table(3);
        return length + " bytes, " + n + ", fault " + x.fault(0) + " at " + x.fault(1) + ", " + Edges.slot(x, 3);
    }
}
