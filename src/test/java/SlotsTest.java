import java.util.Arrays;

/** SLOTS 0 .. 3: each call that takes one answers the same of each of them, and of the others as without a TABLE. */
public final class SlotsTest {
    private static final int NONE = Edges.NONE;
    private static final Edges EDGES = new Edges();

    public static void main(String[] args) {
        for (int slot = 0; slot < 4; slot++) {
            asked(slot);
            kept(slot);
            made(slot);
        }
        EDGES.finish("SlotsTest");
    }

    private static EvenTables with(int slot) {
        EvenTables x = new EvenTables();
        EDGES.due("table(" + slot + ")", Check.tell(x, slot, Edges.THIRDS), 3);
        return x;
    }

    private static void asked(int slot) {
        EDGES.sentence("promises 6 to 8, 17 to 25, 27 and 28, terms", "SLOTS 0 .. 3 hold TABLES");
        EvenTables x = with(slot);
        long[] due = {3, 6, 6, 9, 3, 1, 2, NONE, 5, 4, 1, 2, 0, 2, 3, 2, 8, 1, 52, 5, 0, 1, 1, 7};
        long[] without = {0, 0, NONE, 0, 0, 0, NONE, NONE, NONE, NONE, NONE, NONE, NONE, NONE, NONE, NONE, NONE, NONE, NONE, NONE, NONE,
            NONE, NONE, NONE};
        for (int other = 0; other < 4; other++) {
            long[] wanted = other == slot ? due : without;
            EDGES.due("slot " + other + " of " + slot, Arrays.toString(answers(x, other)), Arrays.toString(wanted));
        }
    }

    private static long[] answers(EvenTables x, int slot) {
        return new long[] {x.look(slot, 0), x.look(slot, 1), x.look(slot, 2), x.look(slot, 3), x.look(slot, 4), x.look(slot, 5),
            x.cell(slot, 0, 1), x.uneven(slot), x.bound(slot, 0), x.bound(slot, 1), x.lack(slot, 3, 0), x.lack(slot, 3, 1),
            x.lack(slot, 3, 2), x.paired(slot, 2, 2), x.ways(slot, 2), x.widest(slot), x.best(slot, 0),
            x.best(slot, 11), x.permanent(slot), x.sought(slot, 0), x.sought(slot, 4), x.rounded(slot, 2, 0), x.mixing(slot),
            x.kin(slot, 1)};
    }

    private static void kept(int slot) {
        EDGES.sentence("promises 12 and 31, terms", "SLOTS 0 .. 3 hold TABLES");
        EvenTables x = with(slot);
        for (int other = 0; other < 4; other++) {
            boolean there = other == slot;
            EDGES.due("peel(" + other + ", 0)", x.peel(other, 0), there ? 5 : NONE);
            EDGES.due("shop(" + other + ", 0)", x.shop(other, 0) > 0, there);
        }
        EDGES.due("kept(2)", x.kept(2), 6);
    }

    private static void made(int slot) {
        EDGES.sentence("promises 9 to 11, terms", "SLOTS 0 .. 3 hold TABLES");
        for (int into = 0; into < 4; into++) {
            EvenTables x = with(slot);
            EDGES.due("turn(" + slot + ", 2, 0, " + into + ")", x.turn(slot, 2, 0, into), true);
            EDGES.due("slot " + into, Edges.slot(x, into), "3 over 6: 1 2 3 2 2 2 3 2 1");
            x = with(slot);
            EDGES.due("times(" + slot + ", " + slot + ", " + into + ")", x.times(slot, slot, into), true);
            EDGES.due("slot " + into, Edges.slot(x, into), "3 over 18: 7 6 5 6 6 6 5 6 7");
            x = with(slot);
            EDGES.due("mix(" + slot + ", 1, 1, " + slot + ", 1, 2, " + into + ")", x.mix(slot, 1, 1, slot, 1, 2, into), true);
            EDGES.due("slot " + into, Edges.slot(x, into), "3 over 4: 3 2 1 2 2 2 1 2 3");
        }
        for (int other = 0; other < 4; other++) {
            EvenTables x = with(slot);
            Check.tell(x, other, Edges.slope(3, "2", "0"));
            String twice = other == slot ? "3 over 1: 4 0 0 0 4 0 0 0 4" : "3 over 3: 3 2 1 2 2 2 1 2 3";
            EDGES.due("times(" + slot + ", " + other + ", 3)", x.times(slot, other, 3), true);
            EDGES.due("slot 3", Edges.slot(x, 3), twice);
        }
    }
}
