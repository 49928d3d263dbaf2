import java.util.Arrays;

/**
 * Joins two tables by a plan that counts what it pays and turns while it works.
 * The words in capitals are those of the document.
 */
public final class TurningPlans {
    public static final int NONE = -1;

    private static final int TABLES = 2;
    private static final int MOST_ROWS = 50;
    private static final int COLUMNS = 3;
    private static final int VALUES = 100;
    private static final int MOST_TESTS = 4;
    private static final int MOST_PRICE = 50;
    private static final int DEARER_THAN_ALL_TESTS = MOST_ROWS * MOST_TESTS * MOST_PRICE + 1;
    private static final int MOST_HELD = TABLES * MOST_ROWS;
    private static final int MOST_PAIRS = MOST_ROWS * MOST_ROWS;
    private static final int MOST_STEPS = 200;
    private static final int ROWS_TO_A_POINT = 4;
    private static final int LATE_PAIR_COST = 2;

    private static final int KINDS = 3;
    private static final int BELOW = 0;
    private static final int LIKE = 1;

    private static final int NO_ASK = 0;
    private static final int RUNS = 1;
    private static final int OVER = 2;

    private static final int NOT_READ = 0;
    private static final int FAILED = 1;
    private static final int IN_MEMORY = 2;
    private static final int SPILLED = 3;

    private final Table[] tables;
    private final Scan[] scans;
    private final int[] joinColumns;
    private final Memory kept;
    private final Pairs pairs;
    private final int[] passingByValue;
    private int askState;
    private int forcedTable;
    private int lastReadTable;
    private int wentOver;
    private int turnedOrders;
    private int latePairCost;
    private int lateRow0;
    private int lateRow1;

    public TurningPlans() {
        Table table0 = new Table();
        Table table1 = new Table();
        tables = new Table[] {table0, table1};
        scans = new Scan[] {new Scan(table0), new Scan(table1)};
        joinColumns = new int[TABLES];
        kept = new Memory();
        pairs = new Pairs();
        passingByValue = new int[VALUES];
        askState = NO_ASK;
        forcedTable = NONE;
    }

    public int row(int table, int c0, int c1, int c2) {
        if (askState == RUNS || !isTable(table) || !isValue(c0) || !isValue(c1) || !isValue(c2)) {
            return NONE;
        }
        return tables[table].addRow(c0, c1, c2);
    }

    public int test(int table, int what, int price) {
        if (askState == RUNS || !isTable(table) || price < 1 || price > MOST_PRICE) {
            return NONE;
        }
        int column = what / 1000;
        int kind = what / 100 % 10;
        if (what < 0 || !isColumn(column) || kind >= KINDS) {
            return NONE;
        }
        return tables[table].addTest(column, kind, what % 100, price);
    }

    public boolean join(int c0, int c1) {
        if (askState == RUNS || !isColumn(c0) || !isColumn(c1)) {
            return false;
        }
        joinColumns[0] = c0;
        joinColumns[1] = c1;
        return true;
    }

    public boolean ask() {
        if (askState == RUNS) {
            return false;
        }
        scans[0].begin();
        scans[1].begin();
        kept.empty();
        pairs.empty();
        lastReadTable = NONE;
        wentOver = 0;
        turnedOrders = 0;
        latePairCost = 0;
        lateRow0 = 0;
        lateRow1 = 0;
        askState = RUNS;
        endIfNothingIsLeft();
        return true;
    }

    public boolean stop() {
        if (askState != RUNS) {
            return false;
        }
        askState = NO_ASK;
        return true;
    }

    public int go(int n) {
        if (askState != RUNS || n < 0 || n > MOST_STEPS) {
            return NONE;
        }
        int made = 0;
        while (made < n && askState == RUNS) {
            makeStep();
            made++;
        }
        return made;
    }

    public boolean memory(int rows) {
        if (rows < 0 || rows > MOST_HELD) {
            return false;
        }
        kept.holds = rows;
        spillExcess();
        return true;
    }

    public boolean force(int table) {
        if (table != NONE && !isTable(table)) {
            return false;
        }
        forcedTable = table;
        return true;
    }

    public boolean order(int table, int digits) {
        if (askState != RUNS || !isTable(table)) {
            return false;
        }
        Scan scan = scans[table];
        if (digits == NONE) {
            scan.orderIsForced = false;
            return true;
        }
        return scan.forceOrder(digits);
    }

    public int ordered(int table, int k) {
        if (!isTable(table) || k < 0 || k >= scans[table].testCount) {
            return NONE;
        }
        return scans[table].testOrder[k];
    }

    public int told(int table, int test, int what) {
        if (!isTable(table) || test < 0 || test >= tables[table].testCount) {
            return NONE;
        }
        switch (what) {
            case 0:
                return scans[table].tried[test];
            case 1:
                return scans[table].failed[test];
            case 2:
                return tables[table].prices[test];
            default:
                return NONE;
        }
    }

    public int given(int i, int table) {
        if (!isTable(table) || i < 0 || i >= pairs.size) {
            return NONE;
        }
        return pairs.rowOf(i, table);
    }

    public int where(int table, int row) {
        if (!isTable(table) || row < 0 || row >= tables[table].rowCount) {
            return NONE;
        }
        return scans[table].places[row];
    }

    public int sum(int table, int column) {
        if (!isTable(table) || !isColumn(column)) {
            return NONE;
        }
        int total = 0;
        for (int i = 0; i < pairs.size; i++) {
            total += tables[table].valueAt(pairs.rowOf(i, table), column);
        }
        return total;
    }

    public int plain() {
        Arrays.fill(passingByValue, 0);
        for (int row = 0; row < tables[1].rowCount; row++) {
            if (tables[1].passesAll(row)) {
                passingByValue[joinValue(1, row)]++;
            }
        }
        int total = 0;
        for (int row = 0; row < tables[0].rowCount; row++) {
            if (tables[0].passesAll(row)) {
                total += passingByValue[joinValue(0, row)];
            }
        }
        return total;
    }

    public int fixed(int table) {
        return isTable(table) ? scans[table].cheapestFixedOrder() : NONE;
    }

    public int cost(int table) {
        return isTable(table) ? scans[table].testCost : NONE;
    }

    public int count(int what) {
        switch (what) {
            case 0:
                return askState;
            case 1:
                return scans[0].wholeCost() + scans[1].wholeCost() + latePairCost;
            case 2:
                return pairs.size;
            case 3:
                return kept.size();
            case 4:
                return kept.spilled;
            case 5:
                return scans[0].readRows;
            case 6:
                return scans[1].readRows;
            case 7:
                return wentOver;
            case 8:
                return turnedOrders;
            case 9:
                return kept.holds;
            default:
                return NONE;
        }
    }

    private static boolean isTable(int table) {
        return table >= 0 && table < TABLES;
    }

    private static boolean isColumn(int column) {
        return column >= 0 && column < COLUMNS;
    }

    private static boolean isValue(int value) {
        return value >= 0 && value < VALUES;
    }

    private int joinValue(int table, int row) {
        return tables[table].valueAt(row, joinColumns[table]);
    }

    private void makeStep() {
        if (bothAreReadOut()) {
            giveLatePair();
        } else {
            readFrom(tableToRead());
        }
        endIfNothingIsLeft();
    }

    private boolean bothAreReadOut() {
        return scans[0].isReadOut() && scans[1].isReadOut();
    }

    private int tableToRead() {
        if (scans[0].isReadOut()) {
            return 1;
        }
        if (scans[1].isReadOut()) {
            return 0;
        }
        if (forcedTable != NONE) {
            return forcedTable;
        }
        return scans[1].gainsMoreThan(scans[0]) ? 1 : 0;
    }

    private void readFrom(int table) {
        if (lastReadTable != NONE && lastReadTable != table) {
            wentOver++;
        }
        lastReadTable = table;
        Scan scan = scans[table];
        int row = scan.readRows;
        scan.readRows++;
        if (scan.tryTests(row)) {
            givePairsOf(table, row);
            scan.places[row] = IN_MEMORY;
            kept.take(table, row);
            spillExcess();
        } else {
            scan.places[row] = FAILED;
        }
        if (scan.isAtPoint() && scan.turnOrder()) {
            turnedOrders++;
        }
    }

    private void givePairsOf(int table, int row) {
        int other = 1 - table;
        int value = joinValue(table, row);
        for (int at = kept.spilled; at < kept.taken; at++) {
            int otherRow = kept.rowAt(at);
            if (kept.tableAt(at) == other && joinValue(other, otherRow) == value) {
                pairs.give(table == 0 ? row : otherRow, table == 0 ? otherRow : row);
                scans[table].pairsGiven++;
            }
        }
    }

    private void spillExcess() {
        for (int excess = kept.size() - kept.holds; excess > 0; excess--) {
            int at = kept.spilled;
            scans[kept.tableAt(at)].places[kept.rowAt(at)] = SPILLED;
            kept.spilled++;
        }
    }

    /** While the ASK RUNS and both TABLES are READ out, the late ROWS are those of a PAIR that wasn't given. */
    private void giveLatePair() {
        pairs.give(lateRow0, lateRow1);
        latePairCost += LATE_PAIR_COST;
    }

    private void endIfNothingIsLeft() {
        if (bothAreReadOut() && !findLatePair()) {
            askState = OVER;
        }
    }

    private boolean findLatePair() {
        while (lateRow0 < tables[0].rowCount) {
            if (scans[0].hasPassed(lateRow0) && findLateRow1()) {
                return true;
            }
            lateRow0++;
            lateRow1 = 0;
        }
        return false;
    }

    private boolean findLateRow1() {
        while (lateRow1 < tables[1].rowCount) {
            if (scans[1].hasPassed(lateRow1) && joinValue(0, lateRow0) == joinValue(1, lateRow1)
                    && !pairs.has(lateRow0, lateRow1)) {
                return true;
            }
            lateRow1++;
        }
        return false;
    }

    /** ROWS and TESTS as they came; an ASK changes nothing here. */
    private static final class Table {
        final int[] cells = new int[MOST_ROWS * COLUMNS];
        final int[] columns = new int[MOST_TESTS];
        final int[] kinds = new int[MOST_TESTS];
        final int[] bounds = new int[MOST_TESTS];
        final int[] prices = new int[MOST_TESTS];
        int rowCount;
        int testCount;

        int addRow(int c0, int c1, int c2) {
            if (rowCount >= MOST_ROWS) {
                return NONE;
            }
            int at = rowCount * COLUMNS;
            cells[at] = c0;
            cells[at + 1] = c1;
            cells[at + 2] = c2;
            rowCount++;
            return rowCount - 1;
        }

        int addTest(int column, int kind, int bound, int price) {
            if (testCount >= MOST_TESTS) {
                return NONE;
            }
            columns[testCount] = column;
            kinds[testCount] = kind;
            bounds[testCount] = bound;
            prices[testCount] = price;
            testCount++;
            return testCount - 1;
        }

        int valueAt(int row, int column) {
            return cells[row * COLUMNS + column];
        }

        boolean passes(int row, int test) {
            int value = valueAt(row, columns[test]);
            if (kinds[test] == BELOW) {
                return value < bounds[test];
            }
            if (kinds[test] == LIKE) {
                return value == bounds[test];
            }
            return value > bounds[test];
        }

        boolean passesAll(int row) {
            for (int test = 0; test < testCount; test++) {
                if (!passes(row, test)) {
                    return false;
                }
            }
            return true;
        }
    }

    /** How the latest ASK stands with one TABLE. */
    private static final class Scan {
        final Table table;
        final int[] places = new int[MOST_ROWS];
        final int[] tried = new int[MOST_TESTS];
        final int[] failed = new int[MOST_TESTS];
        final int[] testOrder = new int[MOST_TESTS];
        final int[] newOrder = new int[MOST_TESTS];
        final int[] failedTests = new int[MOST_ROWS];
        final int[] leastCost = new int[1 << MOST_TESTS];
        // The TABLE may get further TESTS after the ASK, which must not show in its ORDER.
        int testCount;
        boolean orderIsForced;
        int readRows;
        int testCost;
        int pairsGiven;

        Scan(Table table) {
            this.table = table;
        }

        void begin() {
            Arrays.fill(places, NOT_READ);
            Arrays.fill(tried, 0);
            Arrays.fill(failed, 0);
            testCount = table.testCount;
            for (int test = 0; test < testCount; test++) {
                testOrder[test] = test;
            }
            orderIsForced = false;
            readRows = 0;
            testCost = 0;
            pairsGiven = 0;
        }

        boolean isReadOut() {
            return readRows >= table.rowCount;
        }

        boolean hasPassed(int row) {
            return places[row] == IN_MEMORY || places[row] == SPILLED;
        }

        /** READING, TESTS and PAIRS; those PAIRS that come at the end belong to no TABLE. */
        int wholeCost() {
            return readRows + testCost + pairsGiven;
        }

        /** Compares the two quotients by crosswise products, so that like ones are found alike. */
        boolean gainsMoreThan(Scan other) {
            return (pairsGiven + 1) * (other.wholeCost() + 1) > (other.pairsGiven + 1) * (wholeCost() + 1);
        }

        boolean tryTests(int row) {
            for (int k = 0; k < testCount; k++) {
                int test = testOrder[k];
                tried[test]++;
                testCost += table.prices[test];
                if (!table.passes(row, test)) {
                    failed[test]++;
                    return false;
                }
            }
            return true;
        }

        boolean isAtPoint() {
            return readRows % ROWS_TO_A_POINT == 0 && !orderIsForced;
        }

        /** Tells whether the ORDER became another one. */
        boolean turnOrder() {
            sortIntoNewOrder();
            return takeNewOrder();
        }

        boolean forceOrder(int digits) {
            if (digits < 0 || !readIntoNewOrder(digits)) {
                return false;
            }
            takeNewOrder();
            orderIsForced = true;
            return true;
        }

        /** Inserts TESTS by number, each behind its likes, so that of like ones the least number is first. */
        private void sortIntoNewOrder() {
            for (int test = 0; test < testCount; test++) {
                int at = test;
                while (at > 0 && isCheaperToFail(test, newOrder[at - 1])) {
                    newOrder[at] = newOrder[at - 1];
                    at--;
                }
                newOrder[at] = test;
            }
        }

        private boolean isCheaperToFail(int a, int b) {
            return table.prices[a] * (tried[a] + 2) * (failed[b] + 1)
                    < table.prices[b] * (tried[b] + 2) * (failed[a] + 1);
        }

        private boolean readIntoNewOrder(int digits) {
            int rest = digits;
            int seen = 0;
            for (int k = 0; k < testCount; k++) {
                int test = rest % 10;
                rest /= 10;
                if (test >= testCount || (seen & 1 << test) != 0) {
                    return false;
                }
                seen |= 1 << test;
                newOrder[k] = test;
            }
            return rest == 0;
        }

        private boolean takeNewOrder() {
            boolean isAnother = false;
            for (int k = 0; k < testCount; k++) {
                isAnother |= testOrder[k] != newOrder[k];
                testOrder[k] = newOrder[k];
            }
            return isAnother;
        }

        /**
         * A TEST is paid for by just those ROWS that pass all TESTS before it, whatever the ORDER of these is;
         * so the least cost of a set of TESTS tried first follows from those of the sets with one TEST less.
         */
        int cheapestFixedOrder() {
            findFailedTests();
            int sets = 1 << testCount;
            Arrays.fill(leastCost, DEARER_THAN_ALL_TESTS);
            leastCost[0] = 0;
            for (int set = 0; set < sets - 1; set++) {
                int reaching = rowsThatPass(set);
                for (int test = 0; test < testCount; test++) {
                    int larger = set | 1 << test;
                    if (larger != set) {
                        int paid = leastCost[set] + reaching * table.prices[test];
                        leastCost[larger] = Math.min(leastCost[larger], paid);
                    }
                }
            }
            return leastCost[sets - 1];
        }

        private void findFailedTests() {
            for (int row = 0; row < readRows; row++) {
                failedTests[row] = 0;
                for (int test = 0; test < testCount; test++) {
                    if (!table.passes(row, test)) {
                        failedTests[row] |= 1 << test;
                    }
                }
            }
        }

        private int rowsThatPass(int set) {
            int passing = 0;
            for (int row = 0; row < readRows; row++) {
                if ((failedTests[row] & set) == 0) {
                    passing++;
                }
            }
            return passing;
        }
    }

    /**
     * ROWS in the order in which they came. Each comes at most once in an ASK and the earliest goes first,
     * so those that were SPILLED stand before those that are kept, and nothing has to be moved.
     */
    private static final class Memory {
        private final int[] rows = new int[MOST_HELD];
        int holds = MOST_HELD;
        int taken;
        int spilled;

        void empty() {
            taken = 0;
            spilled = 0;
        }

        int size() {
            return taken - spilled;
        }

        void take(int table, int row) {
            if (taken < rows.length) {
                rows[taken] = table * MOST_ROWS + row;
                taken++;
            }
        }

        int tableAt(int at) {
            return rows[at] / MOST_ROWS;
        }

        int rowAt(int at) {
            return rows[at] % MOST_ROWS;
        }
    }

    /** PAIRS in the order in which they were given; a PAIR is its ROW of TABLE 0 * MOST_ROWS + that of TABLE 1. */
    private static final class Pairs {
        private final int[] list = new int[MOST_PAIRS];
        private final boolean[] isGiven = new boolean[MOST_PAIRS];
        int size;

        void empty() {
            for (int i = 0; i < size; i++) {
                isGiven[list[i]] = false;
            }
            size = 0;
        }

        void give(int row0, int row1) {
            if (size < list.length) {
                int pair = row0 * MOST_ROWS + row1;
                list[size] = pair;
                isGiven[pair] = true;
                size++;
            }
        }

        boolean has(int row0, int row1) {
            return isGiven[row0 * MOST_ROWS + row1];
        }

        int rowOf(int i, int table) {
            return table == 0 ? list[i] / MOST_ROWS : list[i] % MOST_ROWS;
        }
    }
}
