import java.util.ArrayList;
import java.util.List;
import java.util.function.Consumer;
import java.util.function.ToLongFunction;

/**
 * What a refused call leaves as it was, promise by promise: all. And what else a call leaves: those that only ask leave
 * all, too, and the others change what their promise tells, and nothing besides.
 */
public final class RefusedCallsTest {
    private static final int NONE = Edges.NONE;
    private static final Edges EDGES = new Edges();

    /** Ways to make an object ready: with nothing, with parts, with a shop. */
    private static final List<Consumer<EvenTables>> READY = new ArrayList<>();

    public static void main(String[] args) {
        READY.add(x -> { });
        READY.add(x -> {
            fill(x);
            x.peel(0, 2);
            x.show();
            x.peel(0, 0);
            Check.write(x, "5 6;7 8;");
        });
        READY.add(x -> {
            fill(x);
            x.peel(0, 1);
            x.show();
            x.shop(1, 0);
            Check.write(x, "1/9; \n");
        });
        refusedTapes();
        refusedTables();
        refusedMaking();
        refusedKeeping();
        refusedAsking();
        asking();
        changingTheTape();
        changingSlots();
        changingWhatIsKept();
        EDGES.finish("RefusedCallsTest");
    }

    /** An even table, one that isn't, a small one, none; the latest text had a fault. */
    private static void fill(EvenTables x) {
        Check.tell(x, 0, Edges.THIRDS);
        Check.tell(x, 1, "1/2 2;3 4;");
        Check.tell(x, 2, "7/9;");
        Check.tell(x, 3, "1 2;3 4/0;");
    }

    private static State after(Consumer<EvenTables> ready, Consumer<EvenTables> call) {
        EvenTables x = new EvenTables();
        ready.accept(x);
        call.accept(x);
        return State.of(x);
    }

    private static void same(String call, String what, String got, String want) {
        EDGES.due(call + " leaves " + what + ": it", got, want);
    }

    /** The call answers what is due, and all stays, whatever there was. */
    private static void refused(String call, long due, ToLongFunction<EvenTables> asked) {
        for (Consumer<EvenTables> ready : READY) {
            State before = after(ready, x -> { });
            State then = after(ready, x -> EDGES.due(call, asked.applyAsLong(x), due));
            same(call, "the slots", then.slots(), before.slots());
            same(call, "what is kept", then.kept(), before.kept());
            same(call, "what was shown", then.shown(), before.shown());
            same(call, "the fault", then.fault(), before.fault());
            same(call, "the tape", then.tape(), before.tape());
        }
    }

    private static long asLong(boolean answer) {
        return answer ? 1 : 0;
    }

    private static void refusedTapes() {
        EDGES.sentence("promise 3", "false if it has not so many, or n is below 0");
        for (int n : new int[] {-1, 9, 601, Integer.MIN_VALUE, Integer.MAX_VALUE}) {
            refused("end(" + n + ")", 0, x -> asLong(x.end(n)));
        }
        EDGES.sentence("promise 2", "NONE, and none come, if there would be more than 600");
        for (int length : new int[] {581, 600}) {
            Consumer<EvenTables> ready = x -> {
                fill(x);
                x.peel(0, 0);
                x.show();
                Check.write(x, "1 2;3 4;" + " ".repeat(length - 8));
            };
            State before = after(ready, x -> { });
            State then = after(ready, x -> EDGES.due("feed", x.feed(-1, -1, -1, -1, -1), NONE));
            EDGES.due("feed behind " + length + " bytes leaves all", then.toString(), before.toString());
        }
    }

    private static void refusedTables() {
        EDGES.sentence("promise 4", "THE TAPE (empty then, in each case); NONE with a FAULT (the SLOT stays)");
        String[] texts = {"x", "1/0;", "1 1 1 1 1 1 1 1 1;", "1;2 3;", "1 2;", "1/999999 1/999998;1 1;"};
        int[] places = {0, 2, 16, 4, 4, 22};
        for (Consumer<EvenTables> ready : READY) {
            State before = after(ready, x -> { });
            for (int i = 0; i < texts.length; i++) {
                String text = texts[i];
                for (int slot = 0; slot < 4; slot++) {
                    int into = slot;
                    State then = after(ready, x -> EDGES.due("table(" + into + ")", Check.tell(x, into, text), NONE));
                    same(text, "the slots", then.slots(), before.slots());
                    same(text, "what is kept", then.kept(), before.kept());
                    same(text, "what was shown", then.shown(), before.shown());
                    EDGES.due("the fault", then.fault(), (i + 1) + " at " + places[i]);
                    EDGES.due("the tape is empty", then.tape(), "0 bytes, 0, fault 0 at -1, 0 over 0:");
                }
            }
        }
        EDGES.sentence("promise 4", "-2: there is no such SLOT (no FAULT then)");
        for (Consumer<EvenTables> ready : READY) {
            State before = after(ready, x -> { });
            for (int slot : Edges.NO_SLOTS) {
                State then = after(ready, x -> EDGES.due("table(" + slot + ")", x.table(slot), -2));
                same("table(" + slot + ")", "the slots", then.slots(), before.slots());
                same("table(" + slot + ")", "what is kept", then.kept(), before.kept());
                same("table(" + slot + ")", "what was shown", then.shown(), before.shown());
                EDGES.due("the fault", then.fault(), "0 at -1");
                EDGES.due("the tape is empty", then.tape(), "0 bytes, 0, fault 0 at -1, 0 over 0:");
            }
        }
    }

    private static void refusedMaking() {
        EDGES.sentence("promise 9", "false: it is refused, there are none such, n unlike or 0");
        for (int into = 0; into < 4; into++) {
            int slot = into;
            refused("mix of unlike n", 0, x -> asLong(x.mix(0, 1, 1, 1, 1, 1, slot)));
            refused("mix with none", 0, x -> asLong(x.mix(0, 1, 1, 3, 1, 1, slot)));
            refused("mix by y 0", 0, x -> asLong(x.mix(0, 1, 0, 0, 1, 1, slot)));
            refused("mix by x -1", 0, x -> asLong(x.mix(0, -1, 1, 0, 1, 1, slot)));
            refused("mix by u 10000", 0, x -> asLong(x.mix(0, 1, 1, 0, 10000, 1, slot)));
            refused("mix by v 10000", 0, x -> asLong(x.mix(0, 1, 1, 0, 1, 10000, slot)));
            refused("mix, BELOW beyond", 0, x -> asLong(x.mix(0, 1, 8191, 0, 1, 8192, slot)));
            EDGES.sentence("promise 10", "false likewise");
            refused("times of unlike n", 0, x -> asLong(x.times(0, 1, slot)));
            refused("times with none", 0, x -> asLong(x.times(3, 3, slot)));
            EDGES.sentence("promise 11", "false: there is no TABLE, no such SLOT, r, how");
            refused("turn of none", 0, x -> asLong(x.turn(3, 0, 0, slot)));
            refused("turn, how 6", 0, x -> asLong(x.turn(0, 6, 0, slot)));
            refused("turn, r 3", 0, x -> asLong(x.turn(0, 4, 3, slot)));
            refused("turn, r -1", 0, x -> asLong(x.turn(0, 5, -1, slot)));
            EDGES.sentence("promise 9", "false: it is refused, there are none such, n unlike or 0");
        }
        for (int slot : Edges.NO_SLOTS) {
            refused("mix into " + slot, 0, x -> asLong(x.mix(0, 1, 1, 0, 1, 1, slot)));
            refused("times into " + slot, 0, x -> asLong(x.times(0, 0, slot)));
            refused("turn into " + slot, 0, x -> asLong(x.turn(0, 1, 0, slot)));
        }
        productsBeyond();
    }

    private static void productsBeyond() {
        EDGES.sentence("promise 10", "false likewise (it is refused)");
        Consumer<EvenTables> ready = x -> {
            Check.tell(x, 0, "10000 1;1 1;");
            Check.tell(x, 1, "1/1000 0;0 1;");
            Check.tell(x, 2, "7/9;");
        };
        State before = after(ready, x -> { });
        for (int into = 0; into < 4; into++) {
            int slot = into;
            State cells = after(ready, x -> EDGES.due("times, a cell beyond", x.times(0, 0, slot), false));
            EDGES.due("times, a cell beyond, leaves all", cells.toString(), before.toString());
            State belows = after(ready, x -> EDGES.due("times, BELOW beyond", x.times(1, 1, slot), false));
            EDGES.due("times, BELOW beyond, leaves all", belows.toString(), before.toString());
            State mixed = after(ready, x -> EDGES.due("mix, a cell beyond", x.mix(0, 9999, 1, 0, 9999, 1, slot), false));
            EDGES.due("mix, a cell beyond, leaves all", mixed.toString(), before.toString());
        }
    }

    private static void refusedKeeping() {
        EDGES.sentence("promise 12", "NONE: it isn't EVEN, no such SLOT, RULE (what was kept stays)");
        for (int rule = 0; rule < 4; rule++) {
            int by = rule;
            refused("peel of one that isn't even", NONE, x -> x.peel(1, by));
            refused("peel of none", NONE, x -> x.peel(3, by));
            refused("peel of no slot", NONE, x -> x.peel(4, by));
            EDGES.sentence("promise 31", "NONE: there is no TABLE with n 1 .. 4, all CELLS are 0, no such SLOT, RULE");
            refused("shop of none", NONE, x -> x.shop(3, by));
            refused("shop of no slot", NONE, x -> x.shop(-1, by));
            EDGES.sentence("promise 12", "NONE: it isn't EVEN, no such SLOT, RULE (what was kept stays)");
        }
        for (int rule : Edges.outside(0, 3)) {
            refused("peel by " + rule, NONE, x -> x.peel(0, rule));
            refused("shop by " + rule, NONE, x -> x.shop(0, rule));
        }
    }

    private static void refusedAsking() {
        EDGES.sentence("promises 5 to 8, 13 to 34", "NONE, -2 (nothing changes)");
        for (int i : new int[] {-1, 99, Integer.MIN_VALUE, Integer.MAX_VALUE}) {
            refused("fault", NONE, x -> x.fault(i));
            refused("look", -2, x -> x.look(i, 0));
            refused("look", -2, x -> x.look(0, i));
            refused("cell", NONE, x -> x.cell(0, i, 0));
            refused("uneven", NONE, x -> x.uneven(i));
            refused("part", NONE, x -> x.part(i, 0));
            refused("part", NONE, x -> x.part(0, i));
            refused("weight", NONE, x -> x.weight(0, i));
            refused("draw", NONE, x -> x.draw(i));
            refused("joint", NONE, x -> x.joint(0, 0, 0, i, 0));
            refused("bound", NONE, x -> x.bound(0, i));
            refused("lack", NONE, x -> x.lack(0, 0, i));
            refused("paired", NONE, x -> x.paired(0, 0, i));
            refused("ways", NONE, x -> x.ways(i, 0));
            refused("widest", NONE, x -> x.widest(i));
            refused("best", NONE, x -> x.best(0, i));
            refused("permanent", NONE, x -> x.permanent(i));
            refused("sought", NONE, x -> x.sought(0, i));
            refused("rounded", NONE, x -> x.rounded(0, 0, i));
            refused("most", NONE, x -> x.most(i, 0));
            refused("mixing", NONE, x -> x.mixing(i));
            refused("kin", NONE, x -> x.kin(0, i));
            refused("out", NONE, x -> x.out(i));
            refused("works", NONE, x -> x.works(0, i));
            refused("job", NONE, x -> x.job(0, i));
            refused("kept", NONE, x -> x.kept(i));
        }
    }

    /** Calls that are answered, and yet change nothing: searches use rows that are kept apart from tables and parts. */
    private static void asking() {
        EDGES.sentence("promises 5 to 8, 13 to 28, 30, 32 to 34", "(what is asked changes nothing)");
        Consumer<EvenTables> all = x -> {
            for (int slot = 0; slot < 4; slot++) {
                x.uneven(slot);
                x.bound(slot, 0);
                x.bound(slot, 1);
                x.lack(slot, 2, 1);
                x.paired(slot, 1, 0);
                x.ways(slot, 1);
                x.widest(slot);
                x.best(slot, 10);
                x.permanent(slot);
                x.sought(slot, 0);
                x.rounded(slot, 0, 0);
                x.mixing(slot);
                x.kin(slot, 0);
            }
            x.draw(1);
            x.joint(0, 0, 1, 1, 0);
            x.most(0, 0);
            x.works(0, 0);
            x.job(0, 0);
        };
        for (Consumer<EvenTables> ready : READY) {
            EDGES.due("asking leaves all", after(ready, all).toString(), after(ready, x -> { }).toString());
        }
    }

    private static void changingTheTape() {
        EDGES.sentence("promises 2 and 3", "(bytes come and go, nothing else changes)");
        for (Consumer<EvenTables> ready : READY) {
            State before = after(ready, x -> { });
            State fed = after(ready, x -> x.feed(1, 2, 3, 4, 5));
            State cut = after(ready, x -> x.end(0));
            for (State then : new State[] {fed, cut}) {
                same("feed, end", "the slots", then.slots(), before.slots());
                same("feed, end", "what is kept", then.kept(), before.kept());
                same("feed, end", "what was shown", then.shown(), before.shown());
                same("feed, end", "the fault", then.fault(), before.fault());
            }
            EDGES.due("the tape is cut", cut.tape(), "0 bytes, 0, fault 0 at -1, 0 over 0:");
        }
    }

    private static void changingSlots() {
        EDGES.sentence("promises 4 and 9 to 11", "(a TABLE comes into a SLOT, nothing else changes)");
        for (int i = 1; i < READY.size(); i++) {
            State before = after(READY.get(i), x -> { });
            String thirds = before.slots().substring(0, before.slots().indexOf("; ") + 2);
            State mixed = after(READY.get(i), x -> EDGES.due("mix", x.mix(0, 1, 1, 0, 0, 1, 3), true));
            State turned = after(READY.get(i), x -> EDGES.due("turn", x.turn(0, 0, 0, 3), true));
            for (State then : new State[] {mixed, turned}) {
                EDGES.due("slot 3 has the table of slot 0", then.slots(), before.slots().replace("0 over 0:, margin -1; ", thirds));
                same("mix, turn", "what is kept", then.kept(), before.kept());
                same("mix, turn", "what was shown", then.shown(), before.shown());
                same("mix, turn", "the fault", then.fault(), before.fault());
                same("mix, turn", "the tape", then.tape(), before.tape());
            }
            State told = after(READY.get(i), x -> Check.tell(x, 2, "7/9;"));
            same("table", "the slots", told.slots(), before.slots());
            same("table", "what is kept", told.kept(), before.kept());
            same("table", "what was shown", told.shown(), before.shown());
        }
    }

    private static void changingWhatIsKept() {
        EDGES.sentence("promises 12, 29 and 31", "(what is kept, what is SHOWN: nothing else changes)");
        for (int i = 1; i < READY.size(); i++) {
            State before = after(READY.get(i), x -> { });
            State peeled = after(READY.get(i), x -> x.peel(2, 0));
            State shop = after(READY.get(i), x -> x.shop(2, 0));
            State shown = after(READY.get(i), x -> x.show());
            EDGES.due("parts", peeled.kept(), "1 1 7 1 7:0;");
            EDGES.due("a shop", shop.kept(), "2 1 7 1 7:01;");
            same("show", "what is kept", shown.kept(), before.kept());
            EDGES.due("what is kept is shown", before.kept().endsWith(" " + shown.shown()), true);
            for (State then : new State[] {peeled, shop, shown}) {
                same("peel, shop, show", "the slots", then.slots(), before.slots());
                same("peel, shop, show", "the fault", then.fault(), before.fault());
                same("peel, shop, show", "the tape", then.tape(), before.tape());
            }
            same("peel", "what was shown", peeled.shown(), before.shown());
            same("shop", "what was shown", shop.shown(), before.shown());
        }
    }
}
