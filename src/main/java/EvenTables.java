import java.util.Arrays;

/**
 * Tables of fractions whose rows and columns all come to the same, as mixtures of choices of one cell a row and
 * column. The words in capitals in the document's terms are the names used here.
 *
 * <p>All rows that the calls need are made with the object, so that no call makes objects of its own.
 */
public final class EvenTables {
    public static final int NONE = -1;

    private static final int NO_SUCH = -2;
    private static final int BEYOND = -2;
    private static final int SLOT_COUNT = 4;
    private static final int RULE_COUNT = 4;
    private static final int SIDE = 8;
    private static final int AREA = 64;
    private static final int COLUMN_SETS = 256;
    private static final int MOST_CELL = 99999999;
    private static final int MOST_BELOW = 999999;
    private static final long MOST_LONG = 9223372036854775807L;
    // Each part leaves at least one cell more at 0, so there are never more parts than cells.
    private static final int MOST_PARTS = AREA;
    private static final int KIND_PARTS = 1;
    private static final int KIND_SHOP = 2;

    private final Table[] slots = new Table[SLOT_COUNT];
    private final Tape tape = new Tape();
    private final Maker maker = new Maker();
    private final Choices choices = new Choices();
    private final Peeler peeler = new Peeler(choices);
    private final Mixture mixture = new Mixture();
    private final Seeker seeker = new Seeker(choices);
    private final Rounder rounder = new Rounder();
    private final Shown shown = new Shown();

    public EvenTables() {
        for (int i = 0; i < SLOT_COUNT; i++) {
            slots[i] = new Table();
        }
    }

    public int feed(int a, int b, int c, int d, int e) {
        if (!tape.hasRoom()) {
            return NONE;
        }
        tape.putNumber(a);
        tape.putNumber(b);
        tape.putNumber(c);
        tape.putNumber(d);
        tape.putNumber(e);
        return tape.length;
    }

    public boolean end(int n) {
        if (n < 0 || n > tape.length) {
            return false;
        }
        tape.length = n;
        return true;
    }

    public int table(int slot) {
        Table into = slotAt(slot);
        if (into == null) {
            tape.drop();
            return NO_SUCH;
        }
        return tape.readInto(into);
    }

    public int fault(int what) {
        if (what == 0) {
            return tape.fault;
        }
        return what == 1 ? tape.place : NONE;
    }

    public int look(int slot, int what) {
        Table table = slotAt(slot);
        if (table == null) {
            return NO_SUCH;
        }
        switch (what) {
            case 0:
                return table.n;
            case 1:
                return table.n == 0 ? 0 : table.below;
            case 2:
                return table.margin;
            case 3:
                return table.countAbove0();
            case 4:
                return table.greatestCell();
            case 5:
                return Joins.countGroups(table.joinedBy(1), table.n);
            default:
                return NO_SUCH;
        }
    }

    public int cell(int slot, int row, int column) {
        Table table = slotAt(slot);
        if (table == null || !table.has(row) || !table.has(column)) {
            return NONE;
        }
        return table.cells[row * SIDE + column];
    }

    public int uneven(int slot) {
        Table table = filledSlot(slot);
        return table == null ? NONE : table.firstUneven();
    }

    public boolean mix(int slot, int x, int y, int other, int u, int v, int into) {
        if (!isShare(x, y) || !isShare(u, v) || !areLike(slot, other, into)) {
            return false;
        }
        return maker.makeMixture(slots[slot], x, y, slots[other], u, v, slots[into]);
    }

    public boolean times(int slot, int other, int into) {
        return areLike(slot, other, into) && maker.makeProduct(slots[slot], slots[other], slots[into]);
    }

    public boolean turn(int slot, int how, int r, int into) {
        Table from = filledSlot(slot);
        Table to = slotAt(into);
        if (from == null || to == null || how < 0 || how > 5 || (how > 3 && !from.has(r))) {
            return false;
        }
        return maker.makeTurned(from, how, r, to);
    }

    public int peel(int slot, int rule) {
        Table table = evenSlot(slot);
        if (table == null || !isRule(rule)) {
            return NONE;
        }
        peeler.startTable(table);
        mixture.start(KIND_PARTS, table.n, table.n, table.margin);
        return keepParts(rule);
    }

    public int part(int k, int row) {
        return mixture.hasPart(k) && mixture.hasRow(row) ? mixture.columnOf(k, row) : NONE;
    }

    public int weight(int k, int what) {
        if (!mixture.hasPart(k) || what < 0 || what > 2) {
            return NONE;
        }
        int own = mixture.weights[k];
        return what == 0 ? own : mixture.inLeastTerms(own, what == 1);
    }

    public int draw(int r) {
        return mixture.partAt(r);
    }

    public int joint(int i, int j, int k, int l, int what) {
        if (!mixture.hasRow(i) || !mixture.hasRow(j) || !mixture.hasRow(k) || !mixture.hasRow(l)) {
            return NONE;
        }
        if (what < 0 || what > 1) {
            return NONE;
        }
        return mixture.inLeastTerms(mixture.weightOfBoth(i, j, k, l), what == 0);
    }

    public int bound(int slot, int what) {
        Table table = evenSlot(slot);
        if (table == null) {
            return NONE;
        }
        if (what == 0) {
            return table.countAbove0() - 2 * table.n + Joins.countGroups(table.joinedBy(1), table.n) + 1;
        }
        return what == 1 && table.n <= 3 ? seeker.countFewest(table) : NONE;
    }

    public int lack(int slot, int least, int what) {
        Table table = filledSlot(slot);
        if (table == null || !isCell(least) || what < 0 || what > 2) {
            return NONE;
        }
        long joined = table.joinedBy(least);
        int rows = Joins.rowsMostLacking(joined, table.n);
        int columns = Joins.columnsOf(joined, rows, table.n);
        if (what == 0) {
            return Integer.bitCount(rows) - Integer.bitCount(columns);
        }
        return what == 1 ? rows : columns;
    }

    public int paired(int slot, int least, int row) {
        Table table = filledSlot(slot);
        if (table == null || !isCell(least) || !table.has(row)) {
            return NONE;
        }
        return choices.findFirst(table.joinedBy(least), table.n) ? choices.columns[row] : NONE;
    }

    public int ways(int slot, int least) {
        Table table = filledSlot(slot);
        if (table == null || !isCell(least)) {
            return NONE;
        }
        return (int) choices.countAll(table.joinedBy(least), table.n);
    }

    public int widest(int slot) {
        Table table = filledSlot(slot);
        return table == null ? NONE : (int) choices.greatestLeast(table.cells, table.joinedBy(0), table.n);
    }

    public long best(int slot, int what) {
        Table table = filledSlot(slot);
        if (table == null || (what != 0 && (what < 10 || !table.has(what - 10)))) {
            return NONE;
        }
        long together = choices.findRichest(table.cells, table.joinedBy(0), table.n);
        return what == 0 ? together : choices.columns[what - 10];
    }

    public long permanent(int slot) {
        Table table = filledSlot(slot);
        return table == null ? NONE : choices.multiplyAll(table.cells, table.n);
    }

    public int sought(int slot, int what) {
        Table table = evenSlot(slot);
        if (table == null || table.n > 4 || what < 0 || what > 4) {
            return NONE;
        }
        if (!table.seekingKnown) {
            seeker.seek(table);
        }
        return what == 0 ? table.soughtParts : table.soughtRules >> (2 * (4 - what)) & 3;
    }

    public int rounded(int slot, int row, int column) {
        Table table = slotAt(slot);
        if (table == null || !table.has(row) || !table.has(column)) {
            return NONE;
        }
        if (!table.roundingKnown) {
            rounder.round(table);
        }
        int place = row * SIDE + column;
        return table.cells[place] / table.below + (int) (table.roundedUp >>> place & 1L);
    }

    public int most(int row, int what) {
        if (!mixture.hasRow(row) || what < 0 || what > 2) {
            return NONE;
        }
        if (what == 2) {
            return mixture.countColumns(row);
        }
        int column = mixture.commonestColumn(row);
        return what == 0 ? column : mixture.weightOf(row, column);
    }

    public int mixing(int slot) {
        Table table = filledSlot(slot);
        return table == null ? NONE : Joins.leastFullPower(table.joinedBy(1), table.joinedBy(0), table.n);
    }

    public int kin(int slot, int row) {
        Table table = slotAt(slot);
        return table == null || !table.has(row) ? NONE : Joins.kinOf(table.joinedBy(1), row, table.n);
    }

    public int show() {
        shown.write(mixture);
        return shown.length;
    }

    public int out(int i) {
        return i < 0 || i >= shown.length ? NONE : shown.bytes[i];
    }

    public int shop(int slot, int rule) {
        Table table = filledSlot(slot);
        if (table == null || table.n > 4 || table.greatestCell() == 0 || !isRule(rule)) {
            return NONE;
        }
        peeler.startShop(table);
        mixture.start(KIND_SHOP, table.n, 2 * table.n, peeler.left);
        return keepParts(rule);
    }

    public int works(int job, int t) {
        if (!mixture.hasJob(job)) {
            return NONE;
        }
        int piece = mixture.partAt(t);
        return piece == NONE ? NONE : mixture.machineOf(piece, job);
    }

    public int job(int job, int what) {
        if (!mixture.hasJob(job)) {
            return NONE;
        }
        switch (what) {
            case 0:
                return mixture.lastHour(job);
            case 1:
                return mixture.countPieces(job);
            case 2:
                return mixture.countMoves(job);
            default:
                return NONE;
        }
    }

    public int kept(int what) {
        switch (what) {
            case 0:
                return mixture.kind;
            case 1:
                return mixture.size;
            case 2:
                return mixture.whole;
            case 3:
                return mixture.n;
            case 4:
                return tape.length;
            default:
                return NONE;
        }
    }

    private Table slotAt(int slot) {
        return slot < 0 || slot >= SLOT_COUNT ? null : slots[slot];
    }

    private Table filledSlot(int slot) {
        Table table = slotAt(slot);
        return table == null || table.n == 0 ? null : table;
    }

    private Table evenSlot(int slot) {
        Table table = slotAt(slot);
        return table == null || table.margin == NONE ? null : table;
    }

    private boolean areLike(int slot, int other, int into) {
        Table one = filledSlot(slot);
        Table two = filledSlot(other);
        return one != null && two != null && one.n == two.n && slotAt(into) != null;
    }

    private int keepParts(int rule) {
        for (int k = 0; k < MOST_PARTS && peeler.left > 0; k++) {
            peeler.takePart(rule);
            mixture.add(peeler.weight, choices.columns);
        }
        return mixture.size;
    }

    private static boolean isRule(int rule) {
        return rule >= 0 && rule < RULE_COUNT;
    }

    private static boolean isCell(int number) {
        return number >= 0 && number <= MOST_CELL;
    }

    private static boolean isShare(int above, int below) {
        return above >= 0 && above <= 9999 && below >= 1 && below <= 9999;
    }

    /** Whole numbers. */
    private static final class Numbers {
        static long greatestDivisor(long a, long b) {
            long greater = a;
            long lesser = b;
            // Two steps at least halve the lesser number, so a long is at its end far ahead of 200.
            for (int i = 0; i < 200 && lesser != 0; i++) {
                long rest = greater % lesser;
                greater = lesser;
                lesser = rest;
            }
            return greater;
        }

        /** NONE, if it would be above most; told without multiplying, which could leave the longs. */
        static long leastMultiple(long a, long b, long most) {
            if (a < 1 || b < 1) {
                return NONE;
            }
            long factor = a / greatestDivisor(a, b);
            return factor > most / b ? NONE : factor * b;
        }
    }

    /**
     * Which rows and columns are joined, as the bits of one long: row r and column c at 8 r and c. So a whole
     * table of them can be changed and handed on without making an array.
     */
    private static final class Joins {
        private static final long FIRST_COLUMN = 0x0101010101010101L;
        private static final long FIRST_ROW = 0xFFL;

        static long of(int[] cells, int n, int least) {
            long joined = 0;
            for (int row = 0; row < n; row++) {
                for (int column = 0; column < n; column++) {
                    int place = row * SIDE + column;
                    if (cells[place] >= least) {
                        joined |= 1L << place;
                    }
                }
            }
            return joined;
        }

        static int rowOf(long joined, int row) {
            return (int) (joined >>> (row * SIDE) & FIRST_ROW);
        }

        /** Leaves those choices alone that go through one cell. */
        static long through(long joined, int row, int column) {
            long crossing = FIRST_ROW << (row * SIDE) | FIRST_COLUMN << column;
            return joined & ~crossing | 1L << (row * SIDE + column);
        }

        static int columnsOf(long joined, int rows, int n) {
            int columns = 0;
            for (int row = 0; row < n; row++) {
                if ((rows >> row & 1) != 0) {
                    columns |= rowOf(joined, row);
                }
            }
            return columns;
        }

        static int rowsOf(long joined, int columns, int n) {
            int rows = 0;
            for (int row = 0; row < n; row++) {
                if ((rowOf(joined, row) & columns) != 0) {
                    rows |= 1 << row;
                }
            }
            return rows;
        }

        static int countGroups(long joined, int n) {
            int groups = 0;
            int rows = 0;
            for (int row = 0; row < n; row++) {
                if ((rows >> row & 1) == 0) {
                    rows |= groupOf(joined, row, n);
                    groups++;
                }
            }
            int lonelyColumns = n - Integer.bitCount(columnsOf(joined, rows, n));
            return groups + lonelyColumns;
        }

        private static int groupOf(long joined, int row, int n) {
            int group = 1 << row;
            for (int round = 0; round < n; round++) {
                group |= rowsOf(joined, columnsOf(joined, group, n), n);
            }
            return group;
        }

        /** Sets go upwards by number: of those with the greatest lack one lies in all others, and it comes first. */
        static int rowsMostLacking(long joined, int n) {
            int found = 0;
            int greatest = 0;
            for (int rows = 1; rows < 1 << n; rows++) {
                int lacking = Integer.bitCount(rows) - Integer.bitCount(columnsOf(joined, rows, n));
                if (lacking > greatest) {
                    greatest = lacking;
                    found = rows;
                }
            }
            return found;
        }

        static int kinOf(long joined, int row, int n) {
            int reached = reachedFrom(joined, row, n);
            int kin = 0;
            for (int other = 0; other < n; other++) {
                if ((reached >> other & 1) != 0 && (reachedFrom(joined, other, n) >> row & 1) != 0) {
                    kin |= 1 << other;
                }
            }
            return kin;
        }

        private static int reachedFrom(long joined, int row, int n) {
            int reached = 1 << row;
            for (int round = 0; round < n; round++) {
                reached |= columnsOf(joined, reached, n);
            }
            return reached;
        }

        /** Only whether cells are 0 matters, so products of joins tell it, however great the numbers would be. */
        static int leastFullPower(long joined, long full, int n) {
            long power = joined;
            for (int m = 1; m <= 64; m++) {
                if (power == full) {
                    return m;
                }
                power = product(power, joined, n);
            }
            return NONE;
        }

        private static long product(long one, long other, int n) {
            long joined = 0;
            for (int row = 0; row < n; row++) {
                joined |= (long) columnsOf(other, rowOf(one, row), n) << (row * SIDE);
            }
            return joined;
        }
    }

    /** What a slot holds; without a table n is 0. BELOW is never less than 1, so it may always divide. */
    private static final class Table {
        final int[] cells = new int[AREA];
        int n = 0;
        int below = 1;
        // NONE, if the table isn't even.
        int margin = NONE;
        // What is dear to find out is found once, and holds until the cells change.
        boolean roundingKnown = false;
        long roundedUp = 0;
        boolean seekingKnown = false;
        int soughtParts = 0;
        int soughtRules = 0;

        void settle(int newN, int newBelow) {
            n = newN;
            below = Math.max(1, newBelow);
            roundingKnown = false;
            seekingKnown = false;
            boolean even = n > 0 && firstUneven() == NONE && sumOfRow(0) > 0;
            margin = even ? sumOfRow(0) : NONE;
        }

        boolean has(int rowOrColumn) {
            return rowOrColumn >= 0 && rowOrColumn < n;
        }

        long joinedBy(int least) {
            return Joins.of(cells, n, least);
        }

        int sumOfRow(int row) {
            int sum = 0;
            for (int column = 0; column < n; column++) {
                sum += cells[row * SIDE + column];
            }
            return sum;
        }

        int sumOfColumn(int column) {
            int sum = 0;
            for (int row = 0; row < n; row++) {
                sum += cells[row * SIDE + column];
            }
            return sum;
        }

        int greatestSum() {
            int greatest = 0;
            for (int i = 0; i < n; i++) {
                greatest = Math.max(greatest, Math.max(sumOfRow(i), sumOfColumn(i)));
            }
            return greatest;
        }

        int firstUneven() {
            int due = sumOfRow(0);
            for (int row = 1; row < n; row++) {
                if (sumOfRow(row) != due) {
                    return row;
                }
            }
            for (int column = 0; column < n; column++) {
                if (sumOfColumn(column) != due) {
                    return SIDE + column;
                }
            }
            return NONE;
        }

        int countAbove0() {
            return Long.bitCount(joinedBy(1));
        }

        int greatestCell() {
            int greatest = 0;
            for (int row = 0; row < n; row++) {
                for (int column = 0; column < n; column++) {
                    greatest = Math.max(greatest, cells[row * SIDE + column]);
                }
            }
            return greatest;
        }
    }

    /** The tape and the reading of its text. */
    private static final class Tape {
        private static final int MOST_BYTES = 600;
        private static final int BYTES_FED = 20;
        private static final int MOST_DIGITS = 6;
        private static final int LINE_END = 10;
        private static final int STRANGE = 1;
        private static final int BELOW_ZERO = 2;
        private static final int NINTH = 3;
        private static final int RAGGED = 4;
        private static final int NOT_SQUARE = 5;
        private static final int TOO_GREAT = 6;

        private final int[] bytes = new int[MOST_BYTES];
        private final int[] above = new int[AREA];
        private final int[] under = new int[AREA];
        int length = 0;
        int fault = 0;
        int place = NONE;
        private int at = 0;
        private int rows = 0;
        private int fractions = 0;
        private int width = 0;

        boolean hasRoom() {
            return length + BYTES_FED <= MOST_BYTES;
        }

        void putNumber(int number) {
            for (int shift = 24; shift >= 0 && length < MOST_BYTES; shift -= 8) {
                bytes[length] = number >>> shift & 255;
                length++;
            }
        }

        void drop() {
            length = 0;
            fault = 0;
            place = NONE;
        }

        int readInto(Table table) {
            fault = 0;
            place = NONE;
            at = 0;
            rows = 0;
            fractions = 0;
            width = 0;
            // Every piece that is no fault takes one byte at least.
            for (int piece = 0; piece < MOST_BYTES && at < length && fault == 0; piece++) {
                readPiece();
            }
            checkEnd();
            fill(table);
            length = 0;
            return fault == 0 ? table.n : NONE;
        }

        private void readPiece() {
            if (isBlank(at)) {
                at++;
            } else if (isSign(at, ';')) {
                closeRow();
            } else if (isDigit(at)) {
                readFraction();
            } else {
                fail(STRANGE, at);
            }
        }

        private void closeRow() {
            if (rows == SIDE) {
                fail(NINTH, at);
            } else if (rows > 0 && fractions != width) {
                fail(RAGGED, at);
            } else {
                if (rows == 0) {
                    width = fractions;
                }
                rows++;
                fractions = 0;
                at++;
            }
        }

        private void readFraction() {
            if (countDigits() > MOST_DIGITS) {
                fail(STRANGE, at);
            } else if (rows == SIDE || fractions == SIDE) {
                fail(NINTH, at);
            } else if (rows > 0 && fractions == width) {
                fail(RAGGED, at);
            } else {
                int number = readNumber();
                keepFraction(number, readDivisor());
            }
        }

        /** What stands behind "/"; 1, if none does, and with a fault. */
        private int readDivisor() {
            skipBlanks();
            if (!isSign(at, '/')) {
                return 1;
            }
            at++;
            skipBlanks();
            if (!isDigit(at) || countDigits() > MOST_DIGITS) {
                fail(STRANGE, at);
                return 1;
            }
            int begin = at;
            int number = readNumber();
            if (number == 0) {
                fail(BELOW_ZERO, begin);
                return 1;
            }
            return number;
        }

        private void keepFraction(int number, int divisor) {
            int shared = (int) Numbers.greatestDivisor(divisor, number);
            int index = rows * SIDE + fractions;
            above[index] = number / shared;
            under[index] = divisor / shared;
            fractions++;
        }

        private int countDigits() {
            int count = 0;
            for (int i = at; i < length && isDigit(i); i++) {
                count++;
            }
            return count;
        }

        private int readNumber() {
            int number = 0;
            for (int digits = 0; digits < MOST_DIGITS && isDigit(at); digits++) {
                number = number * 10 + bytes[at] - '0';
                at++;
            }
            return number;
        }

        private void skipBlanks() {
            for (int skipped = 0; skipped < MOST_BYTES && isBlank(at); skipped++) {
                at++;
            }
        }

        private boolean isSign(int index, int sign) {
            return index < length && bytes[index] == sign;
        }

        private boolean isBlank(int index) {
            return index < length && (bytes[index] == ' ' || bytes[index] == LINE_END);
        }

        private boolean isDigit(int index) {
            return index < length && bytes[index] >= '0' && bytes[index] <= '9';
        }

        private void fail(int number, int where) {
            fault = number;
            place = where;
        }

        private void checkEnd() {
            if (fault == 0 && fractions > 0) {
                fail(STRANGE, length);
            }
            if (fault == 0 && rows != width) {
                fail(NOT_SQUARE, length);
            }
        }

        private void fill(Table table) {
            if (fault != 0) {
                return;
            }
            int below = commonBelow();
            if (below == NONE || !areCells(below)) {
                fail(TOO_GREAT, length);
                return;
            }
            for (int row = 0; row < rows; row++) {
                for (int column = 0; column < rows; column++) {
                    int index = row * SIDE + column;
                    table.cells[index] = above[index] * (below / under[index]);
                }
            }
            table.settle(rows, below);
        }

        private int commonBelow() {
            long below = 1;
            for (int row = 0; row < rows; row++) {
                for (int column = 0; column < rows; column++) {
                    below = Numbers.leastMultiple(below, under[row * SIDE + column], MOST_BELOW);
                }
            }
            return (int) below;
        }

        private boolean areCells(int below) {
            for (int row = 0; row < rows; row++) {
                for (int column = 0; column < rows; column++) {
                    int index = row * SIDE + column;
                    if ((long) above[index] * (below / under[index]) > MOST_CELL) {
                        return false;
                    }
                }
            }
            return true;
        }
    }

    /** Makes tables of tables, in longs first, so that one of them may also be the slot it comes into. */
    private static final class Maker {
        private static final long MOST_MULTIPLE = 1000000000L;
        private static final long MOST_SUM = 1000000000000000L;

        private final long[] sums = new long[AREA];

        boolean makeMixture(Table one, int x, int y, Table other, int u, int v, Table into) {
            long divisor = (long) y * one.below;
            long otherDivisor = (long) v * other.below;
            long multiple = Numbers.leastMultiple(divisor, otherDivisor, MOST_MULTIPLE);
            if (multiple == NONE) {
                return false;
            }
            long factor = multiple / divisor;
            long otherFactor = multiple / otherDivisor;
            for (int row = 0; row < one.n; row++) {
                for (int column = 0; column < one.n; column++) {
                    int place = row * SIDE + column;
                    long a = multiplied((long) x * one.cells[place], factor);
                    long b = multiplied((long) u * other.cells[place], otherFactor);
                    if (a == NONE || b == NONE || a + b > MOST_SUM) {
                        return false;
                    }
                    sums[place] = a + b;
                }
            }
            return bring(multiple, one.n, into);
        }

        /** NONE, if it would be above the greatest sum. */
        private static long multiplied(long number, long factor) {
            if (number == 0) {
                return 0;
            }
            return factor > MOST_SUM / number ? NONE : number * factor;
        }

        boolean makeProduct(Table one, Table other, Table into) {
            for (int row = 0; row < one.n; row++) {
                for (int column = 0; column < one.n; column++) {
                    long sum = 0;
                    for (int k = 0; k < one.n; k++) {
                        sum += (long) one.cells[row * SIDE + k] * other.cells[k * SIDE + column];
                    }
                    sums[row * SIDE + column] = sum;
                }
            }
            return bring((long) one.below * other.below, one.n, into);
        }

        boolean makeTurned(Table from, int how, int r, Table into) {
            int last = from.n - 1;
            for (int row = 0; row < from.n; row++) {
                for (int column = 0; column < from.n; column++) {
                    int fromRow = how == 1 ? column : turnedFrom(row, how == 2, how == 4, r, last);
                    int fromColumn = how == 1 ? row : turnedFrom(column, how == 3, how == 5, r, last);
                    sums[row * SIDE + column] = from.cells[fromRow * SIDE + fromColumn];
                }
            }
            return bring(from.below, from.n, into);
        }

        private static int turnedFrom(int i, boolean backwards, boolean behind, int r, int last) {
            if (backwards) {
                return last - i;
            }
            if (!behind || i < r) {
                return i;
            }
            return i < last ? i + 1 : r;
        }

        private boolean bring(long below, int n, Table into) {
            long shared = sharedDivisor(below, n);
            if (shared < 1 || below / shared > MOST_BELOW || !areCells(shared, n)) {
                return false;
            }
            for (int row = 0; row < n; row++) {
                for (int column = 0; column < n; column++) {
                    int place = row * SIDE + column;
                    into.cells[place] = (int) (sums[place] / shared);
                }
            }
            into.settle(n, (int) (below / shared));
            return true;
        }

        private long sharedDivisor(long below, int n) {
            long shared = below;
            for (int row = 0; row < n; row++) {
                for (int column = 0; column < n && shared > 1; column++) {
                    shared = Numbers.greatestDivisor(shared, sums[row * SIDE + column]);
                }
            }
            return shared;
        }

        private boolean areCells(long shared, int n) {
            for (int row = 0; row < n; row++) {
                for (int column = 0; column < n; column++) {
                    if (sums[row * SIDE + column] / shared > MOST_CELL) {
                        return false;
                    }
                }
            }
            return true;
        }
    }

    /**
     * Finds choices. A set of columns stands for all ways to give them to as many first rows: what the other rows
     * can come to depends on the set alone, so 256 sets stand for all 40320 choices.
     */
    private static final class Choices {
        // Each set is gone into once at most and left once at most.
        private static final int MOST_STEPS = 2 * COLUMN_SETS + SIDE;

        final int[] columns = new int[SIDE];
        private final long[] values = new long[COLUMN_SETS];
        // A set holds the number of the latest search that found it to lead nowhere; nothing need be wiped so.
        private final int[] leadsNowhere = new int[COLUMN_SETS];
        private int search = 0;

        boolean findFirst(long joined, int n) {
            search++;
            int used = 0;
            int row = 0;
            int from = 0;
            for (int step = 0; step < MOST_STEPS && row < n; step++) {
                int column = nextColumn(Joins.rowOf(joined, row) & ~used, used, from, n);
                if (column < n) {
                    columns[row] = column;
                    used |= 1 << column;
                    from = 0;
                    row++;
                } else if (row == 0) {
                    return false;
                } else {
                    leadsNowhere[used] = search;
                    row--;
                    used ^= 1 << columns[row];
                    from = columns[row] + 1;
                }
            }
            return row == n;
        }

        private int nextColumn(int open, int used, int from, int n) {
            for (int column = from; column < n; column++) {
                if ((open >> column & 1) != 0 && leadsNowhere[used | 1 << column] != search) {
                    return column;
                }
            }
            return n;
        }

        /** Of joined choices the greatest least cell. NONE: there is no such choice. */
        long greatestLeast(int[] cells, long joined, int n) {
            int all = (1 << n) - 1;
            values[all] = MOST_LONG;
            for (int set = all - 1; set >= 0; set--) {
                int row = Integer.bitCount(set);
                int open = Joins.rowOf(joined, row) & ~set;
                long greatest = NONE;
                for (int column = 0; column < n; column++) {
                    if ((open >> column & 1) != 0) {
                        greatest = Math.max(greatest, Math.min(cells[row * SIDE + column], values[set | 1 << column]));
                    }
                }
                values[set] = greatest;
            }
            return values[0];
        }

        /** Finds the first of the joined choices with the greatest sum, and answers that. NONE: there is none. */
        long findRichest(int[] cells, long joined, int n) {
            sumUp(cells, joined, n);
            if (values[0] == NONE) {
                return NONE;
            }
            int used = 0;
            for (int row = 0; row < n; row++) {
                int column = richestColumn(cells, row, Joins.rowOf(joined, row) & ~used, used, n);
                columns[row] = column;
                used |= 1 << column;
            }
            return values[0];
        }

        private void sumUp(int[] cells, long joined, int n) {
            int all = (1 << n) - 1;
            values[all] = 0;
            for (int set = all - 1; set >= 0; set--) {
                int row = Integer.bitCount(set);
                int open = Joins.rowOf(joined, row) & ~set;
                long greatest = NONE;
                for (int column = 0; column < n; column++) {
                    if ((open >> column & 1) != 0 && values[set | 1 << column] != NONE) {
                        greatest = Math.max(greatest, cells[row * SIDE + column] + values[set | 1 << column]);
                    }
                }
                values[set] = greatest;
            }
        }

        private int richestColumn(int[] cells, int row, int open, int used, int n) {
            for (int column = 0; column < n; column++) {
                if ((open >> column & 1) != 0) {
                    long rest = values[used | 1 << column];
                    if (rest != NONE && cells[row * SIDE + column] + rest == values[used]) {
                        return column;
                    }
                }
            }
            return 0;
        }

        long countAll(long joined, int n) {
            int all = (1 << n) - 1;
            values[all] = 1;
            for (int set = all - 1; set >= 0; set--) {
                int open = Joins.rowOf(joined, Integer.bitCount(set)) & ~set;
                long count = 0;
                for (int column = 0; column < n; column++) {
                    if ((open >> column & 1) != 0) {
                        count += values[set | 1 << column];
                    }
                }
                values[set] = count;
            }
            return values[0];
        }

        long multiplyAll(int[] cells, int n) {
            values[0] = 1;
            for (int set = 1; set < 1 << n; set++) {
                values[set] = multiplySet(cells, set, n);
                if (values[set] == BEYOND) {
                    return BEYOND;
                }
            }
            return values[(1 << n) - 1];
        }

        private long multiplySet(int[] cells, int set, int n) {
            int row = Integer.bitCount(set) - 1;
            long sum = 0;
            for (int column = 0; column < n; column++) {
                int cell = cells[row * SIDE + column];
                if ((set >> column & 1) != 0 && cell > 0) {
                    long rest = values[set ^ 1 << column];
                    if (rest > (MOST_LONG - sum) / cell) {
                        return BEYOND;
                    }
                    sum += cell * rest;
                }
            }
            return sum;
        }
    }

    /** Cells that parts are taken off. A shop's cells go beyond those of tables, but stay far within the ints. */
    private static final class Peeler {
        private final Choices choices;
        private final int[] cells = new int[AREA];
        private int n = 0;
        int left = 0;
        int parts = 0;
        int weight = 0;

        Peeler(Choices choices) {
            this.choices = choices;
        }

        void startTable(Table table) {
            System.arraycopy(table.cells, 0, cells, 0, AREA);
            n = table.n;
            left = table.margin;
            parts = 0;
        }

        void startShop(Table table) {
            int jobs = table.n;
            int length = table.greatestSum();
            Arrays.fill(cells, 0);
            for (int i = 0; i < jobs; i++) {
                for (int j = 0; j < jobs; j++) {
                    int hours = table.cells[i * SIDE + j];
                    cells[i * SIDE + j] = hours;
                    cells[(jobs + j) * SIDE + jobs + i] = hours;
                }
                cells[i * SIDE + jobs + i] = length - table.sumOfRow(i);
                cells[(jobs + i) * SIDE + i] = length - table.sumOfColumn(i);
            }
            n = 2 * jobs;
            left = length;
            parts = 0;
        }

        void startLike(Peeler other) {
            System.arraycopy(other.cells, 0, cells, 0, AREA);
            n = other.n;
            left = other.left;
            parts = other.parts;
        }

        /** Takes one part, whose columns are then those of the choices; as long as cells are left there is one. */
        void takePart(int rule) {
            weight = 0;
            if (left <= 0 || !choose(rule)) {
                left = 0;
                return;
            }
            weight = left;
            for (int row = 0; row < n; row++) {
                weight = Math.min(weight, cells[row * SIDE + choices.columns[row]]);
            }
            for (int row = 0; row < n; row++) {
                cells[row * SIDE + choices.columns[row]] -= weight;
            }
            left -= weight;
            parts++;
        }

        private boolean choose(int rule) {
            long open = Joins.of(cells, n, 1);
            switch (rule) {
                case 1:
                    int least = (int) choices.greatestLeast(cells, open, n);
                    return least > 0 && choices.findFirst(Joins.of(cells, n, least), n);
                case 2:
                    int place = leastPlace();
                    return choices.findFirst(Joins.through(open, place / SIDE, place % SIDE), n);
                case 3:
                    return choices.findRichest(cells, open, n) != NONE;
                default:
                    return choices.findFirst(open, n);
            }
        }

        private int leastPlace() {
            int found = 0;
            int least = left + 1;
            for (int row = 0; row < n; row++) {
                for (int column = 0; column < n; column++) {
                    int cell = cells[row * SIDE + column];
                    if (cell > 0 && cell < least) {
                        least = cell;
                        found = row * SIDE + column;
                    }
                }
            }
            return found;
        }

        /** The columns of the part taken latest as one number, to tell whether two parts are the same. */
        int choiceNumber() {
            int number = 0;
            for (int row = 0; row < n; row++) {
                number = number * SIDE + choices.columns[row];
            }
            return number;
        }
    }

    /** Seeks mixtures of few parts. */
    private static final class Seeker {
        private static final int LEVELS = 4;

        private final Choices choices;
        // Level k has k parts taken; the last one takes all that the level ahead of it has left.
        private final Peeler[] levels = new Peeler[LEVELS + 1];
        private final int[] numbers = new int[LEVELS * RULE_COUNT];
        private final int[] evenWeights = new int[3];
        private final int[] oddWeights = new int[3];

        Seeker(Choices choices) {
            this.choices = choices;
            for (int i = 0; i <= LEVELS; i++) {
                levels[i] = new Peeler(choices);
            }
        }

        void seek(Table table) {
            table.soughtParts = MOST_PARTS + 1;
            levels[0].startTable(table);
            for (int first = 0; first < RULE_COUNT; first++) {
                if (!isNewStep(0, first)) {
                    continue;
                }
                for (int second = 0; second < RULE_COUNT; second++) {
                    if (!isNewStep(1, second)) {
                        continue;
                    }
                    for (int third = 0; third < RULE_COUNT; third++) {
                        if (isNewStep(2, third)) {
                            finish(table, (first * RULE_COUNT + second) * RULE_COUNT + third);
                        }
                    }
                }
            }
            table.seekingKnown = true;
        }

        /** Takes a part by a rule. False: a lesser rule took the same one, and all that follows would be the same. */
        private boolean isNewStep(int level, int rule) {
            Peeler next = levels[level + 1];
            next.startLike(levels[level]);
            int number = NONE;
            if (next.left > 0) {
                next.takePart(rule);
                number = next.choiceNumber();
            }
            int begin = level * RULE_COUNT;
            numbers[begin + rule] = number;
            for (int lesser = 0; lesser < rule; lesser++) {
                if (numbers[begin + lesser] == number) {
                    return false;
                }
            }
            return true;
        }

        private void finish(Table table, int rules) {
            Peeler last = levels[LEVELS];
            for (int fourth = 0; fourth < RULE_COUNT; fourth++) {
                last.startLike(levels[LEVELS - 1]);
                for (int k = 0; k < MOST_PARTS && last.left > 0 && last.parts < table.soughtParts; k++) {
                    last.takePart(fourth);
                }
                if (last.left == 0 && last.parts < table.soughtParts) {
                    table.soughtParts = last.parts;
                    table.soughtRules = rules * RULE_COUNT + fourth;
                }
            }
        }

        /** Up to two rows the weights are the only ones there are. */
        int countFewest(Table table) {
            Arrays.fill(evenWeights, 0);
            Arrays.fill(oddWeights, 0);
            Peeler all = levels[0];
            all.startTable(table);
            for (int k = 0; k < MOST_PARTS && all.left > 0; k++) {
                all.takePart(0);
                addWeight(all.weight);
            }
            if (table.n < 3) {
                return all.parts;
            }
            int evenLeast = leastOf(evenWeights);
            int oddLeast = leastOf(oddWeights);
            return Math.min(countAbove(evenWeights, evenLeast) + countAbove(oddWeights, -evenLeast),
                    countAbove(evenWeights, -oddLeast) + countAbove(oddWeights, oddLeast));
        }

        /**
         * With three rows the even choices together are the odd ones together, and that is all that can be changed:
         * as much goes from each even weight to each odd one, or back. A weight comes to 0 only where no more can go.
         */
        private void addWeight(int weight) {
            int first = choices.columns[0];
            if (first < 3) {
                if (choices.columns[1] == (first + 1) % 3) {
                    evenWeights[first] += weight;
                } else {
                    oddWeights[first] += weight;
                }
            }
        }

        private static int leastOf(int[] weights) {
            int least = weights[0];
            for (int weight : weights) {
                least = Math.min(least, weight);
            }
            return least;
        }

        private static int countAbove(int[] weights, int bound) {
            int count = 0;
            for (int weight : weights) {
                if (weight > bound) {
                    count++;
                }
            }
            return count;
        }
    }

    /**
     * Rounds a table as a flow in a ring: from a source to rows, to columns, to a sink, and back. How often one more
     * than the cut number is taken flows along; what a row, a column, and all come to are bounds of its channels.
     */
    private static final class Rounder {
        private static final int SOURCE = 0;
        private static final int ROWS = 1;
        private static final int COLUMNS = 9;
        private static final int SINK = 17;
        private static final int NODES = 18;

        private final int[] flow = new int[NODES * NODES];
        private final int[] low = new int[NODES * NODES];
        private final int[] high = new int[NODES * NODES];
        private final int[] before = new int[NODES];
        private final int[] queue = new int[NODES];

        void round(Table table) {
            lay(table);
            meetLows(table.n);
            table.roundedUp = lessen(table.n);
            table.roundingKnown = true;
        }

        private void lay(Table table) {
            Arrays.fill(flow, 0);
            Arrays.fill(low, 0);
            Arrays.fill(high, 0);
            int all = 0;
            for (int i = 0; i < table.n; i++) {
                int row = 0;
                int column = 0;
                for (int j = 0; j < table.n; j++) {
                    int rest = table.cells[i * SIDE + j] % table.below;
                    setBounds(ROWS + i, COLUMNS + j, rest, table.below);
                    row += rest;
                    column += table.cells[j * SIDE + i] % table.below;
                }
                setBounds(SOURCE, ROWS + i, row, table.below);
                setBounds(COLUMNS + i, SINK, column, table.below);
                all += row;
            }
            setBounds(SINK, SOURCE, all, table.below);
        }

        private void setBounds(int from, int to, int rests, int below) {
            int channel = from * NODES + to;
            low[channel] = rests / below;
            high[channel] = rests % below == 0 ? low[channel] : low[channel] + 1;
        }

        private void meetLows(int n) {
            for (int i = 0; i < n; i++) {
                meetLow(SOURCE, ROWS + i);
            }
            for (int i = 0; i < n; i++) {
                meetLow(COLUMNS + i, SINK);
            }
            meetLow(SINK, SOURCE);
        }

        /** As the fractions themselves keep all bounds, there always is a way on which more can flow. */
        private void meetLow(int from, int to) {
            int channel = from * NODES + to;
            for (int k = 0; k < AREA && flow[channel] < low[channel]; k++) {
                if (findWay(to, from)) {
                    flowAlong(to, from);
                    flow[channel]++;
                }
            }
        }

        /** Lessens cells one after the other where it can be, each kept as it is then: so the first way is found. */
        private long lessen(int n) {
            long raised = 0;
            for (int row = 0; row < n; row++) {
                for (int column = 0; column < n; column++) {
                    int channel = (ROWS + row) * NODES + COLUMNS + column;
                    if (flow[channel] > 0 && findWay(ROWS + row, COLUMNS + column)) {
                        flowAlong(ROWS + row, COLUMNS + column);
                        flow[channel]--;
                    }
                    low[channel] = flow[channel];
                    high[channel] = flow[channel];
                    if (flow[channel] > 0) {
                        raised |= 1L << (row * SIDE + column);
                    }
                }
            }
            return raised;
        }

        private boolean findWay(int from, int to) {
            Arrays.fill(before, NONE);
            before[from] = from;
            queue[0] = from;
            int size = 1;
            for (int i = 0; i < size && i < NODES; i++) {
                for (int node = 0; node < NODES && size < NODES; node++) {
                    if (before[node] == NONE && isOpen(queue[i], node)) {
                        before[node] = queue[i];
                        if (node == to) {
                            return true;
                        }
                        queue[size] = node;
                        size++;
                    }
                }
            }
            return false;
        }

        private boolean isOpen(int from, int to) {
            int onwards = from * NODES + to;
            int back = to * NODES + from;
            return flow[onwards] < high[onwards] || flow[back] > low[back];
        }

        private void flowAlong(int from, int to) {
            int node = to;
            for (int i = 0; i < NODES && node != from; i++) {
                int channel = before[node] * NODES + node;
                if (flow[channel] < high[channel]) {
                    flow[channel]++;
                } else {
                    flow[node * NODES + before[node]]--;
                }
                node = before[node];
            }
        }
    }

    /** The parts that are kept, of a table or of a shop. */
    private static final class Mixture {
        final int[] weights = new int[MOST_PARTS];
        private final int[] columns = new int[MOST_PARTS * SIDE];
        int kind = 0;
        int n = 0;
        int rows = 0;
        int size = 0;
        int whole = 0;

        void start(int newKind, int newN, int newRows, int newWhole) {
            kind = newKind;
            n = newN;
            rows = newRows;
            whole = newWhole;
            size = 0;
        }

        void add(int weight, int[] choice) {
            if (weight < 1 || size >= MOST_PARTS) {
                return;
            }
            weights[size] = weight;
            System.arraycopy(choice, 0, columns, size * SIDE, SIDE);
            size++;
        }

        boolean hasPart(int k) {
            return k >= 0 && k < size;
        }

        boolean hasRow(int row) {
            return row >= 0 && row < rows;
        }

        boolean hasJob(int job) {
            return kind == KIND_SHOP && job >= 0 && job < n;
        }

        int columnOf(int k, int row) {
            return columns[k * SIDE + row];
        }

        int inLeastTerms(int weight, boolean upper) {
            int shared = (int) Numbers.greatestDivisor(whole, weight);
            if (shared < 1) {
                return NONE;
            }
            return upper ? weight / shared : whole / shared;
        }

        int partAt(int r) {
            if (r < 0) {
                return NONE;
            }
            int rest = r;
            for (int k = 0; k < size; k++) {
                if (rest < weights[k]) {
                    return k;
                }
                rest -= weights[k];
            }
            return NONE;
        }

        int weightOfBoth(int row, int column, int otherRow, int otherColumn) {
            int together = 0;
            for (int k = 0; k < size; k++) {
                if (columnOf(k, row) == column && columnOf(k, otherRow) == otherColumn) {
                    together += weights[k];
                }
            }
            return together;
        }

        int weightOf(int row, int column) {
            return weightOfBoth(row, column, row, column);
        }

        int commonestColumn(int row) {
            int found = 0;
            for (int column = 1; column < rows; column++) {
                if (weightOf(row, column) > weightOf(row, found)) {
                    found = column;
                }
            }
            return found;
        }

        int countColumns(int row) {
            int seen = 0;
            for (int k = 0; k < size; k++) {
                seen |= 1 << columnOf(k, row);
            }
            return Integer.bitCount(seen);
        }

        int machineOf(int piece, int job) {
            int column = columnOf(piece, job);
            return column < n ? column : NONE;
        }

        int lastHour(int job) {
            int hour = NONE;
            int begin = 0;
            for (int k = 0; k < size; k++) {
                begin += weights[k];
                if (machineOf(k, job) != NONE) {
                    hour = begin - 1;
                }
            }
            return hour;
        }

        int countPieces(int job) {
            int count = 0;
            for (int k = 0; k < size; k++) {
                if (machineOf(k, job) != NONE) {
                    count++;
                }
            }
            return count;
        }

        int countMoves(int job) {
            int count = 0;
            int latest = NONE;
            for (int k = 0; k < size; k++) {
                int machine = machineOf(k, job);
                if (machine != NONE) {
                    if (latest != NONE && latest != machine) {
                        count++;
                    }
                    latest = machine;
                }
            }
            return count;
        }
    }

    /** What was shown latest; it stays when other parts are kept. */
    private static final class Shown {
        // A weight has nine digits at the most, and a ":", eight columns and a ";" stand behind it.
        private static final int MOST_BYTES = MOST_PARTS * 19;

        final int[] bytes = new int[MOST_BYTES];
        int length = 0;

        void write(Mixture mixture) {
            length = 0;
            for (int k = 0; k < mixture.size; k++) {
                putNumber(mixture.weights[k]);
                put(':');
                for (int row = 0; row < mixture.rows; row++) {
                    put('0' + mixture.columnOf(k, row));
                }
                put(';');
            }
        }

        private void putNumber(int number) {
            int scale = 1;
            for (int i = 0; i < 9 && number / scale > 9; i++) {
                scale *= 10;
            }
            for (int i = 0; i < 10 && scale > 0; i++) {
                put('0' + number / scale % 10);
                scale /= 10;
            }
        }

        private void put(int sign) {
            if (length < MOST_BYTES) {
                bytes[length] = sign;
                length++;
            }
        }
    }
}
