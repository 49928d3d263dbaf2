/** One method for each promise: ordinary inputs, the edges that the document names, and wrong inputs. */
public final class PromisesTest extends Plans {
    private static final Checks CHECKS = new Checks("PromisesTest");

    public static void main(String[] args) {
        promise1NewObject();
        promise2Row();
        promise3Test();
        promise3Kinds();
        promise4Join();
        promise5Ask();
        promise6Stop();
        promise6StopAmongLatePairs();
        promise7Go();
        promise7Gain();
        promise7GainCountsTestsAndPairs();
        promise7LatePairs();
        promise7EndsAsSoonAsNothingIsLeft();
        promise7FullTables();
        promise8Memory();
        promise8MemoryOutsideOfAnAsk();
        promise9Force();
        promise10Order();
        promise10RefusedOrders();
        promise11Ordered();
        promise11Points();
        promise11LikePricesForFailing();
        promise11PricesForFailingAreNotRounded();
        promise12Told();
        promise13Given();
        promise14Where();
        promise15Sum();
        promise16Plain();
        promise17Fixed();
        promise18Cost();
        promise19Count();
        promise19CountsOfTurns();
        CHECKS.end();
    }

    private static void due(String call, long got, long want) {
        CHECKS.due(call, got, want);
    }

    private static void due(String call, boolean got, boolean want) {
        CHECKS.due(call, got, want);
    }

    private static void promise1NewObject() {
        TurningPlans x = new TurningPlans();
        CHECKS.due("1: counts", countsOf(x), "0 0 0 0 0 0 0 0 0 100");
        due("1: plain", x.plain(), 0);
        for (int table = 0; table < 2; table++) {
            due("1: where", x.where(table, 0), NONE);
            due("1: told", x.told(table, 0, 0), NONE);
            due("1: ordered", x.ordered(table, 0), NONE);
            due("1: given", x.given(0, table), NONE);
            due("1: sum", x.sum(table, 0), 0);
            due("1: fixed", x.fixed(table), 0);
            due("1: cost", x.cost(table), 0);
        }
        due("1: go", x.go(1), NONE);
        due("1: stop", x.stop(), false);
        due("1: NONE", TurningPlans.NONE, -1);
        x.row(0, 1, 2, 3);
        x.row(1, 1, 4, 5);
        x.row(1, 9, 2, 3);
        due("1: the JOIN is of COLUMNS 0 at first", x.plain(), 1);
    }

    private static void promise2Row() {
        TurningPlans x = new TurningPlans();
        due("2: first of 0", x.row(0, 0, 0, 0), 0);
        due("2: first of 1", x.row(1, 99, 99, 99), 0);
        due("2: second of 0", x.row(0, 99, 0, 99), 1);
        for (int table : NO_TABLES) {
            due("2: table " + table, x.row(table, 0, 0, 0), NONE);
        }
        for (int value : NO_VALUES) {
            due("2: c0 " + value, x.row(0, value, 0, 0), NONE);
            due("2: c1 " + value, x.row(0, 0, value, 0), NONE);
            due("2: c2 " + value, x.row(0, 0, 0, value), NONE);
        }
        x.ask();
        due("2: while an ASK RUNS", x.row(0, 0, 0, 0), NONE);
        due("2: while an ASK RUNS, of 1", x.row(1, 0, 0, 0), NONE);
        x.stop();
        due("2: after one", x.row(0, 0, 0, 0), 2);
        x.ask();
        x.go(200);
        due("2: after one that is OVER", x.count(0), 2);
        for (int number = 3; number < 50; number++) {
            due("2: further", x.row(0, 0, 0, 0), number);
        }
        due("2: the 51st", x.row(0, 0, 0, 0), NONE);
        due("2: the other TABLE has place", x.row(1, 0, 0, 0), 1);
        due("2: none was added", x.where(0, 50), NONE);
    }

    private static void promise3Test() {
        TurningPlans x = withRows(values(1), values());
        for (int table : NO_TABLES) {
            due("3: table " + table, x.test(table, 0, 1), NONE);
        }
        for (int what : values(-1, -100, -1000, 300, 399, 999, 1300, 2300, 2999, 3000, 10000, MIN, MAX)) {
            due("3: what " + what, x.test(0, what, 1), NONE);
        }
        for (int price : values(0, -1, 51, MIN, MAX)) {
            due("3: price " + price, x.test(0, 0, price), NONE);
        }
        due("3: refused ones changed nothing", x.plain() + x.told(0, 0, 2), NONE);
        due("3: first", x.test(0, 99, 1), 0);
        due("3: second", x.test(0, 2299, 50), 1);
        due("3: first of 1", x.test(1, 1000, 7), 0);
        x.ask();
        due("3: while an ASK RUNS", x.test(0, 0, 1), NONE);
        x.stop();
        due("3: third", x.test(0, 2200, 3), 2);
        due("3: fourth", x.test(0, 0, 4), 3);
        due("3: fifth", x.test(0, 0, 4), NONE);
        due("3: price of the second", x.told(0, 1, 2), 50);
        due("3: price of the fourth", x.told(0, 3, 2), 4);
        due("3: there is no fifth", x.told(0, 4, 2), NONE);
        due("3: price of that of 1", x.told(1, 0, 2), 7);
    }

    /** How many of the ROWS 10, 20, .. 50 of TABLE 0, in the COLUMN of the TEST, pass it. */
    private static int passing(int column, int what) {
        TurningPlans x = new TurningPlans();
        for (int value = 10; value <= 50; value += 10) {
            x.row(0, column == 0 ? value : 20, column == 1 ? value : 20, column == 2 ? value : 20);
        }
        for (int value = 10; value <= 50; value += 10) {
            x.row(1, 0, 20, value);
        }
        x.join(column == 0 ? 1 : 0, 1);
        x.test(0, column * 1000 + what, 1);
        return x.plain() / 5;
    }

    private static void promise3Kinds() {
        for (int column = 0; column < 3; column++) {
            due("3: below 20", passing(column, 20), 1);
            due("3: below 21", passing(column, 21), 2);
            due("3: below 0", passing(column, 0), 0);
            due("3: like 20", passing(column, 120), 1);
            due("3: like 21", passing(column, 121), 0);
            due("3: above 20", passing(column, 220), 3);
            due("3: above 19", passing(column, 219), 4);
            due("3: above 99", passing(column, 299), 0);
        }
    }

    private static void promise4Join() {
        TurningPlans x = new TurningPlans();
        x.row(0, 1, 2, 3);
        x.row(1, 1, 1, 3);
        x.row(1, 2, 1, 3);
        int[][] plain = {{1, 2, 0}, {1, 0, 0}, {0, 0, 2}};
        for (int c0 = 0; c0 < 3; c0++) {
            for (int c1 = 0; c1 < 3; c1++) {
                due("4: join", x.join(c0, c1), true);
                due("4: plain by " + c0 + c1, x.plain(), plain[c0][c1]);
            }
        }
        for (int column : NO_COLUMNS) {
            due("4: c0 " + column, x.join(column, 0), false);
            due("4: c1 " + column, x.join(0, column), false);
        }
        due("4: refused ones changed nothing", x.plain(), 2);
        x.ask();
        due("4: while an ASK RUNS", x.join(0, 0), false);
        x.go(200);
        CHECKS.due("4: PAIRS by COLUMNS 2", pairsOf(x), "0-0 0-1");
        due("4: after it", x.join(0, 0), true);
        x.ask();
        x.go(200);
        CHECKS.due("4: PAIRS by COLUMNS 0", pairsOf(x), "0-0");
    }

    private static void promise5Ask() {
        TurningPlans x = withRows(values(1, 1, 1, 1, 1), values(1));
        x.test(0, 50, 9);
        x.test(0, 1200, 1);
        x.memory(2);
        due("5: ask", x.ask(), true);
        due("5: while one RUNS", x.ask(), false);
        x.go(3);
        due("5: still while one RUNS", x.ask(), false);
        due("5: a refused one changes nothing", x.count(5) + x.count(6), 3);
        x.go(200);
        due("5: it is OVER", x.count(0), 2);
        CHECKS.due("5: its ORDER turned", orderOf(x, 0), "10");
        due("5: anew", x.ask(), true);
        CHECKS.due("5: nothing is counted", countsOf(x), "1 0 0 0 0 0 0 0 0 2");
        CHECKS.due("5: the ORDER is by numbers", orderOf(x, 0), "01");
        CHECKS.due("5: nothing is READ", placesOf(x, 0) + placesOf(x, 1), "000000");
        CHECKS.due("5: nothing is given", pairsOf(x), "");
        due("5: nothing is paid", x.cost(0) + x.fixed(0), 0);
        due("5: nothing is TRIED", x.told(0, 0, 0) + x.told(0, 1, 0) + x.told(0, 1, 1), 0);
        due("5: nothing is summed", x.sum(0, 0), 0);
        due("5: of empty TABLES", new TurningPlans().ask(), true);
        TurningPlans empty = new TurningPlans();
        empty.ask();
        due("5: it is OVER at once", empty.count(0), 2);
        due("5: and can be asked again", empty.ask(), true);
    }

    private static void promise6Stop() {
        TurningPlans x = withRows(values(1, 1, 2), values(1, 1, 2));
        due("6: none RUNS", x.stop(), false);
        x.ask();
        x.go(3);
        String counts = countsOf(x);
        String pairs = pairsOf(x);
        String places = placesOf(x, 0) + placesOf(x, 1);
        due("6: stop", x.stop(), true);
        due("6: NONE RUNS", x.count(0), 0);
        due("6: again", x.stop(), false);
        due("6: no further step", x.go(1), NONE);
        due("6: no ORDER", x.order(0, 0), false);
        CHECKS.due("6: counts stay told", countsOf(x).substring(1), counts.substring(1));
        CHECKS.due("6: PAIRS stay told", pairsOf(x), pairs);
        CHECKS.due("6: PAIRS", pairs, "0-0 0-1");
        CHECKS.due("6: places stay told", placesOf(x, 0) + placesOf(x, 1), places);
        due("6: a ROW may come", x.row(0, 2, 0, 0), 3);
        due("6: next one", x.ask(), true);
        CHECKS.due("6: begins anew", pairsOf(x), "");
        x.go(200);
        due("6: OVER", x.count(0), 2);
        due("6: nothing to give up", x.stop(), false);
        due("6: it stays OVER", x.count(0), 2);
    }

    private static void promise6StopAmongLatePairs() {
        TurningPlans x = withRows(values(1, 1), values(1, 1, 1));
        x.memory(0);
        x.ask();
        x.go(7);
        CHECKS.due("6: before", pairsOf(x), "0-0 0-1");
        x.stop();
        x.ask();
        x.go(200);
        CHECKS.due("6: the next one gives all anew", pairsOf(x), "0-0 0-1 0-2 1-0 1-1 1-2");
    }

    private static void promise7Go() {
        TurningPlans x = withRows(values(1, 2), values(2, 1, 3));
        due("7: no ASK", x.go(0), NONE);
        x.ask();
        for (int n : values(-1, 201, MIN, MAX)) {
            due("7: n " + n, x.go(n), NONE);
        }
        due("7: refused ones READ nothing", x.count(5) + x.count(6), 0);
        due("7: no step", x.go(0), 0);
        due("7: a step", x.go(1), 1);
        due("7: it READ a ROW", x.count(5) + x.count(6), 1);
        due("7: as many as there are", x.go(200), 4);
        due("7: OVER", x.count(0), 2);
        due("7: OVER, no ASK RUNS", x.go(1), NONE);
        due("7: OVER, no step", x.go(0), NONE);
        due("7: cost", x.count(1), 5 + 2);
    }

    private static void promise7Gain() {
        // Gains before each step: 1/1 1/1; 1/2 1/1; 1/2 2/3; 1/2 3/5; 1/2 3/6; 1/3 3/6; 1/3 3/7.
        TurningPlans x = withRows(values(1, 7, 7), values(1, 1, 5, 5, 1, 5));
        x.ask();
        String[] read = {"10", "11", "12", "13", "23", "24", "25"};
        for (int step = 0; step < read.length; step++) {
            x.go(1);
            CHECKS.due("7: ROWS READ after step " + step, "" + x.count(5) + x.count(6), read[step]);
        }
        CHECKS.due("7: PAIRS by gain", pairsOf(x), "0-0 0-1 0-4");
    }

    private static void promise7GainCountsTestsAndPairs() {
        // If PAIRS were no cost of READING, TABLE 1 would gain 2/3 against 1/2 after three steps.
        TurningPlans x = withRows(values(1, 5), values(1, 2, 3));
        x.ask();
        x.go(4);
        due("7: like gains, the first TABLE", x.count(5), 2);
        // TESTS of TABLE 1 cost 10, so TABLE 0 is READ till it has cost that much.
        TurningPlans y = withRows(likeValues(20, 1), likeValues(20, 2));
        y.test(1, 99, 10);
        y.ask();
        y.go(2);
        due("7: TABLE 1 was READ once", y.count(6), 1);
        y.go(10);
        due("7: TABLE 0 till its gain is less", y.count(5), 11);
        y.go(1);
        due("7: one more, they were alike", y.count(5), 12);
        y.go(1);
        due("7: then TABLE 1", y.count(6), 2);
    }

    private static void promise7LatePairs() {
        TurningPlans x = withRows(values(1, 1, 1), values(1, 1));
        x.memory(2);
        x.force(0);
        x.ask();
        x.go(5);
        CHECKS.due("7: PAIRS of READING", pairsOf(x), "1-0 2-0 2-1");
        due("7: cost of READING", x.count(1), 5 + 3);
        due("7: it RUNS", x.count(0), 1);
        due("7: late PAIR", x.go(1), 1);
        CHECKS.due("7: the first late PAIR", pairsOf(x), "1-0 2-0 2-1 0-0");
        due("7: cost of a late PAIR", x.count(1), 8 + 2);
        due("7: late PAIRS", x.go(200), 2);
        CHECKS.due("7: all PAIRS", pairsOf(x), "1-0 2-0 2-1 0-0 0-1 1-1");
        due("7: cost of all", x.count(1), 8 + 6);
        due("7: OVER", x.count(0), 2);
        due("7: late PAIRS are not READ", x.count(5) + x.count(6), 5);
    }

    private static void promise7EndsAsSoonAsNothingIsLeft() {
        TurningPlans x = withRows(values(1, 2), values(2, 2));
        x.memory(0);
        x.ask();
        x.go(4);
        due("7: PAIRS are left", x.count(0), 1);
        x.go(1);
        due("7: a PAIR is left", x.count(0), 1);
        due("7: the last one", x.go(1), 1);
        due("7: OVER with the last PAIR", x.count(0), 2);
        CHECKS.due("7: late PAIRS", pairsOf(x), "1-0 1-1");
        TurningPlans y = withRows(values(1, 2), values(3));
        y.memory(0);
        y.ask();
        y.go(2);
        due("7: a ROW is left", y.count(0), 1);
        y.go(1);
        due("7: OVER with the last ROW", y.count(0), 2);
        TurningPlans z = withRows(values(), values(3));
        z.ask();
        due("7: one TABLE is empty, the other not", z.count(0), 1);
        due("7: go over one TABLE", z.go(9), 1);
        due("7: OVER with it", z.count(0), 2);
    }

    private static void promise7FullTables() {
        TurningPlans x = withRows(likeValues(50, 7), likeValues(50, 7));
        x.test(0, 99, 1);
        x.test(1, 207, 1);
        x.ask();
        due("7: no PAIR is late", x.go(200), 100);
        due("7: OVER without PAIRS", x.count(0), 2);
        due("7: by the cheapest ORDER", x.fixed(0) + x.fixed(1), 50 + 50);
        TurningPlans y = withRows(likeValues(50, 7), likeValues(50, 7));
        y.ask();
        due("7: all PAIRS by READING", y.go(200), 100);
        due("7: each once", y.count(2), 2500);
        due("7: all ROWS are kept", y.count(3), 100);
        due("7: cost of all", y.count(1), 100 + 2500);
        due("7: the sum of numbers", y.sum(0, 1) + y.sum(1, 1), 2 * 50 * 1225);
        due("7: the highest PAIR", y.given(2499, 0) + y.given(2499, 1), 49 + 49);
        y.memory(0);
        y.ask();
        y.go(100);
        due("7: nothing was kept", y.count(4), 100);
        due("7: nothing was given", y.count(2), 0);
        for (int i = 0; i < 2500; i += 125) {
            due("7: late PAIRS", y.go(125), 125);
            due("7: OVER with the last", y.count(0), i + 125 == 2500 ? 2 : 1);
        }
        due("7: late PAIRS by ROWS of TABLE 0", y.given(149, 0), 2);
        due("7: of one by those of TABLE 1", y.given(149, 1), 49);
        due("7: cost of all late ones", y.count(1), 100 + 5000);
    }

    private static void promise8Memory() {
        TurningPlans x = withRows(values(1, 1, 1, 1), values(1, 1, 1));
        for (int rows : values(-1, 101, MIN, MAX)) {
            due("8: rows " + rows, x.memory(rows), false);
        }
        due("8: refused ones changed nothing", x.count(9), 100);
        x.force(0);
        x.ask();
        x.go(5);
        due("8: all are kept", x.count(3), 5);
        due("8: taken away", x.memory(3), true);
        due("8: it holds", x.count(9), 3);
        due("8: SPILLED at once", x.count(3), 3);
        due("8: how many", x.count(4), 2);
        CHECKS.due("8: the earliest ones", placesOf(x, 0) + " " + placesOf(x, 1), "3322 200");
        due("8: got back", x.memory(100), true);
        due("8: what is SPILLED stays so", x.count(3), 3);
        x.go(1);
        CHECKS.due("8: PAIRS with what is kept", pairsOf(x), "0-0 1-0 2-0 3-0 2-1 3-1");
        due("8: none at all", x.memory(0), true);
        due("8: none is kept", x.count(3), 0);
        x.go(1);
        due("8: a ROW is SPILLED as it comes", x.where(1, 2), 3);
        due("8: SPILLED ever", x.count(4), 7);
        x.go(200);
        CHECKS.due("8: each PAIR once", pairsOf(x),
                "0-0 1-0 2-0 3-0 2-1 3-1 0-1 0-2 1-1 1-2 2-2 3-2");
    }

    private static void promise8MemoryOutsideOfAnAsk() {
        TurningPlans x = withRows(values(1, 2), values(1));
        due("8: before any", x.memory(1), true);
        x.ask();
        x.go(200);
        due("8: it held before", x.count(4), 2);
        CHECKS.due("8: which one is kept", placesOf(x, 0) + " " + placesOf(x, 1), "32 3");
        due("8: after it", x.memory(0), true);
        due("8: SPILLED after it", x.count(4), 3);
        due("8: and is told", x.where(0, 1), 3);
        x.ask();
        due("8: stays for the next", x.count(9), 0);
    }

    private static void promise9Force() {
        TurningPlans x = withRows(values(1, 2, 3), values(4, 5, 6));
        for (int table : values(-2, 2, MIN, MAX)) {
            due("9: table " + table, x.force(table), false);
        }
        due("9: before an ASK", x.force(1), true);
        due("9: a refused one changes nothing", x.force(2), false);
        x.ask();
        x.go(2);
        CHECKS.due("9: TABLE 1 is READ", x.count(5) + " " + x.count(6), "0 2");
        due("9: to the other", x.force(0), true);
        x.go(2);
        CHECKS.due("9: TABLE 0 is READ", x.count(5) + " " + x.count(6), "2 2");
        x.stop();
        x.ask();
        x.go(2);
        CHECKS.due("9: it stays for the next ASK", x.count(5) + " " + x.count(6), "2 0");
        due("9: not any more", x.force(NONE), true);
        x.go(2);
        CHECKS.due("9: by gain", x.count(5) + " " + x.count(6), "2 2");
        x.force(0);
        x.go(2);
        CHECKS.due("9: one is READ out, the other", x.count(5) + " " + x.count(6), "3 3");
    }

    /** TABLE 0 has howMany ROWS, of which TEST 0 (price 10) passes all, TEST 1 (price 1) and 2 (price 5) none. */
    private static TurningPlans withThreeTests(int howMany) {
        TurningPlans x = withRows(likeValues(howMany, 1), values());
        x.test(0, 99, 10);
        x.test(0, 299, 1);
        x.test(0, 299, 5);
        return x;
    }

    private static void promise10Order() {
        TurningPlans x = withThreeTests(20);
        due("10: no ASK", x.order(0, 210), false);
        due("10: no ASK, NONE", x.order(0, NONE), false);
        x.ask();
        due("10: the lowest digit first", x.order(0, 102), true);
        CHECKS.due("10: its ORDER", orderOf(x, 0), "201");
        x.go(4);
        due("10: TRIED by it", x.cost(0), 20);
        CHECKS.due("10: it stays at a POINT", orderOf(x, 0), "201");
        due("10: the other TABLE has no TESTS", x.order(1, 0), true);
        due("10: with a zero before", x.order(0, 12), true);
        CHECKS.due("10: another ORDER", orderOf(x, 0), "210");
        x.go(3);
        due("10: not FORCED any more", x.order(0, NONE), true);
        CHECKS.due("10: till the next POINT", orderOf(x, 0), "210");
        x.go(1);
        CHECKS.due("10: it turns at the POINT", orderOf(x, 0), "120");
        due("10: NONE again", x.order(0, NONE), true);
        x.order(0, 210);
        x.stop();
        x.ask();
        x.go(4);
        CHECKS.due("10: another ASK begins without", orderOf(x, 0), "120");
    }

    private static void promise10RefusedOrders() {
        TurningPlans x = withThreeTests(4);
        x.test(1, 0, 1);
        x.ask();
        x.order(0, 102);
        for (int table : NO_TABLES) {
            due("10: table " + table, x.order(table, 210), false);
            due("10: NONE of table " + table, x.order(table, NONE), false);
        }
        int[] wrong = {0, 1, 10, 11, 110, 112, 211, 222, 310, 213, 3210, 1210, 10210, 1000210, -210, -2, MIN, MAX};
        for (int digits : wrong) {
            due("10: digits " + digits, x.order(0, digits), false);
        }
        CHECKS.due("10: refused ones changed nothing", orderOf(x, 0), "201");
        x.go(4);
        CHECKS.due("10: it is FORCED as before", orderOf(x, 0), "201");
        due("10: OVER", x.order(0, 210), false);
        TurningPlans y = withRows(values(1), values(1));
        y.test(1, 0, 1);
        y.ask();
        due("10: no TESTS", y.order(0, 0), true);
        due("10: more than no TESTS", y.order(0, 1), false);
        due("10: the only TEST", y.order(1, 0), true);
        due("10: another than the only TEST", y.order(1, 1), false);
        due("10: more than the only TEST", y.order(1, 10), false);
        TurningPlans z = withThreeTests(1);
        z.test(0, 0, 1);
        z.ask();
        due("10: four TESTS", z.order(0, 3012), true);
        CHECKS.due("10: ORDER of four", orderOf(z, 0), "2103");
        due("10: four TESTS, a zero before", z.order(0, 123), true);
        CHECKS.due("10: another ORDER of four", orderOf(z, 0), "3210");
        due("10: four TESTS and one more", z.order(0, 43210), false);
    }

    private static void promise11Ordered() {
        TurningPlans x = withThreeTests(4);
        due("11: no ASK yet", x.ordered(0, 0), NONE);
        x.ask();
        for (int k = 0; k < 3; k++) {
            due("11: by numbers", x.ordered(0, k), k);
        }
        for (int k : values(-1, 3, 4, MIN, MAX)) {
            due("11: k " + k, x.ordered(0, k), NONE);
        }
        for (int table : NO_TABLES) {
            due("11: table " + table, x.ordered(table, 0), NONE);
        }
        due("11: no TESTS", x.ordered(1, 0), NONE);
        x.go(4);
        due("11: OVER", x.count(0), 2);
        x.test(0, 0, 1);
        x.test(1, 0, 1);
        due("11: TESTS that came later", x.ordered(0, 3), NONE);
        due("11: TESTS that came later, of 1", x.ordered(1, 0), NONE);
        CHECKS.due("11: the latest ASK stays told", orderOf(x, 0), "120");
        x.ask();
        CHECKS.due("11: the next one has them", orderOf(x, 0), "0123");
    }

    private static void promise11Points() {
        TurningPlans x = withThreeTests(9);
        x.ask();
        x.go(3);
        CHECKS.due("11: before the POINT", orderOf(x, 0), "012");
        x.go(1);
        // 10 * 6 / 1, 1 * 6 / 5, 5 * 2 / 1
        CHECKS.due("11: at the POINT", orderOf(x, 0), "120");
        due("11: one turn", x.count(8), 1);
        due("11: cost before", x.cost(0), 4 * 11);
        x.go(4);
        due("11: cost after", x.cost(0), 4 * 11 + 4);
        due("11: no turn at the second POINT", x.count(8), 1);
        // TEST 0 fails ROWS 4 .. 7 alone: at 8 it is 2 * (8 + 2) / (4 + 1), the other 3 * (4 + 2) / (4 + 1).
        TurningPlans y = withRows(values(1, 1, 1, 1, 9, 9, 9, 9, 1), values());
        y.test(0, 5, 2);
        y.test(0, 205, 3);
        y.ask();
        y.go(4);
        // 2 * (4 + 2) / 1, 3 * (4 + 2) / 5
        CHECKS.due("11: the first POINT", orderOf(y, 0), "10");
        y.go(4);
        // TEST 1 passes ROWS 4 .. 7: 2 * (8 + 2) / 5 = 4, 3 * (8 + 2) / 5 = 6
        CHECKS.due("11: the second POINT", orderOf(y, 0), "01");
        due("11: two turns", y.count(8), 2);
    }

    private static void promise11LikePricesForFailing() {
        TurningPlans x = withRows(likeValues(8, 1), values());
        x.test(0, 99, 3);
        x.test(0, 99, 3);
        x.test(0, 99, 3);
        x.ask();
        x.go(4);
        CHECKS.due("11: like ones by numbers", orderOf(x, 0), "012");
        due("11: that is no turn", x.count(8), 0);
        x.order(0, 12);
        x.order(0, NONE);
        x.go(4);
        CHECKS.due("11: like ones by numbers again", orderOf(x, 0), "012");
        due("11: that is a turn", x.count(8), 1);
    }

    private static void promise11PricesForFailingAreNotRounded() {
        TurningPlans x = withRows(likeValues(4, 1), values());
        x.test(0, 0, 7);
        x.test(0, 0, 4);
        x.ask();
        x.go(4);
        // 7 * 6 / 5 is 8.4, 4 * 2 / 1 is 8
        CHECKS.due("11: by the exact price", orderOf(x, 0), "10");
    }

    private static void promise12Told() {
        TurningPlans x = withRows(values(1, 2, 3, 4, 5), values(1));
        x.test(0, 4, 2);
        x.test(0, 201, 7);
        due("12: TRIED before any ASK", x.told(0, 0, 0), 0);
        due("12: PRICE before any ASK", x.told(0, 1, 2), 7);
        x.force(0);
        x.ask();
        x.go(4);
        due("12: TRIED 0", x.told(0, 0, 0), 4);
        due("12: failed 0", x.told(0, 0, 1), 1);
        due("12: TRIED 1", x.told(0, 1, 0), 3);
        due("12: failed 1", x.told(0, 1, 1), 1);
        due("12: PRICE 0", x.told(0, 0, 2), 2);
        for (int what : values(-1, 3, MIN, MAX)) {
            due("12: what " + what, x.told(0, 0, what), NONE);
        }
        for (int test : values(-1, 2, 4, MIN, MAX)) {
            due("12: test " + test, x.told(0, test, 0), NONE);
        }
        for (int table : NO_TABLES) {
            due("12: table " + table, x.told(table, 0, 2), NONE);
        }
        due("12: the other TABLE has none", x.told(1, 0, 2), NONE);
        x.go(200);
        due("12: a later TEST", x.test(0, 0, 9), 2);
        due("12: it wasn't TRIED", x.told(0, 2, 0), 0);
        due("12: it has a PRICE", x.told(0, 2, 2), 9);
        due("12: of the latest ASK", x.told(0, 0, 0), 5);
        x.ask();
        due("12: of the next ASK", x.told(0, 0, 0) + x.told(0, 0, 1), 0);
    }

    private static void promise13Given() {
        TurningPlans x = withRows(values(3, 1, 2), values(2, 3, 3));
        x.force(0);
        x.ask();
        x.go(200);
        due("13: TABLE 0", x.given(0, 0), 2);
        due("13: TABLE 1", x.given(0, 1), 0);
        due("13: TABLE 0, later", x.given(2, 0), 0);
        due("13: TABLE 1, later", x.given(2, 1), 2);
        for (int i : values(-1, 3, 2499, 2500, MIN, MAX)) {
            due("13: i " + i, x.given(i, 0), NONE);
            due("13: i " + i, x.given(i, 1), NONE);
        }
        for (int table : NO_TABLES) {
            due("13: table " + table, x.given(0, table), NONE);
        }
        x.row(0, 2, 0, 0);
        due("13: of the latest ASK", x.given(1, 1), 1);
        x.force(1);
        x.ask();
        due("13: of the next one", x.given(0, 0), NONE);
        x.go(200);
        CHECKS.due("13: by READING of TABLE 0", pairsOf(x), "0-1 0-2 2-0 3-0");
    }

    private static void promise14Where() {
        TurningPlans x = withRows(values(1, 2, 3, 4), values(1));
        x.test(0, 202, 1);
        due("14: before any ASK", x.where(0, 0), 0);
        x.memory(1);
        x.force(0);
        x.ask();
        CHECKS.due("14: not READ", placesOf(x, 0), "0000");
        x.go(2);
        CHECKS.due("14: READ and failed", placesOf(x, 0), "1100");
        x.go(1);
        CHECKS.due("14: in MEMORY", placesOf(x, 0), "1120");
        x.go(1);
        CHECKS.due("14: SPILLED", placesOf(x, 0), "1132");
        for (int row : values(-1, 4, 50, MIN, MAX)) {
            due("14: row " + row, x.where(0, row), NONE);
        }
        for (int table : NO_TABLES) {
            due("14: table " + table, x.where(table, 0), NONE);
        }
        x.go(200);
        x.row(0, 9, 9, 9);
        CHECKS.due("14: a later ROW is not READ", placesOf(x, 0) + " " + placesOf(x, 1), "11330 2");
    }

    private static void promise15Sum() {
        TurningPlans x = new TurningPlans();
        x.row(0, 1, 10, 20);
        x.row(0, 2, 30, 40);
        x.row(0, 9, 99, 99);
        x.row(1, 1, 5, 6);
        x.row(1, 1, 7, 8);
        x.row(1, 2, 9, 99);
        due("15: no ASK", x.sum(0, 0), 0);
        x.ask();
        due("15: nothing given", x.sum(1, 2), 0);
        x.go(200);
        int[][] sums = {{1 + 1 + 2, 10 + 10 + 30, 20 + 20 + 40}, {1 + 1 + 2, 5 + 7 + 9, 6 + 8 + 99}};
        for (int table = 0; table < 2; table++) {
            for (int column = 0; column < 3; column++) {
                due("15: sum(" + table + ", " + column + ")", x.sum(table, column), sums[table][column]);
            }
        }
        for (int table : NO_TABLES) {
            due("15: table " + table, x.sum(table, 0), NONE);
        }
        for (int column : NO_COLUMNS) {
            due("15: column " + column, x.sum(0, column), NONE);
        }
        x.memory(0);
        x.ask();
        x.go(8);
        due("15: of the late PAIRS given so far", x.sum(1, 1), 5 + 7);
        x.stop();
        due("15: stays told", x.sum(1, 1), 5 + 7);
    }

    private static void promise16Plain() {
        TurningPlans x = withRows(values(1, 1, 2, 99, 0), values(1, 1, 2, 2, 99, 0));
        due("16: without TESTS", x.plain(), 2 * 2 + 2 + 1 + 1);
        x.test(0, 1200, 1);
        due("16: without ROW 0 of TABLE 0", x.plain(), 2 + 2 + 1 + 1);
        x.test(1, 1005, 1);
        due("16: without ROW 5 of TABLE 1", x.plain(), 2 + 2 + 1);
        x.ask();
        due("16: while an ASK RUNS", x.plain(), 5);
        x.memory(0);
        x.go(200);
        due("16: after it", x.plain(), 5);
        due("16: as many as were given", x.count(2), 5);
        x.join(1, 1);
        due("16: by another JOIN", x.plain(), 4);
        x.row(1, 0, 2, 0);
        due("16: with another ROW", x.plain(), 5);
        x.test(1, 0, 1);
        due("16: with a TEST that none passes", x.plain(), 0);
        due("16: that changes nothing that was given", x.count(2), 5);
    }

    private static void promise17Fixed() {
        // TEST 0 fails ROWS 0 and 1, TEST 1 fails ROWS 1 and 2.
        TurningPlans x = withRows(values(5, 5, 1, 1), values(1));
        x.test(0, 5, 10);
        x.test(0, 1100, 3);
        x.test(1, 99, 8);
        due("17: before any ASK", x.fixed(0), 0);
        x.force(0);
        x.ask();
        due("17: nothing READ", x.fixed(0), 0);
        x.go(1);
        due("17: ROW 0 by 0, 1", x.fixed(0), 10);
        x.go(1);
        due("17: ROWS 0, 1 by 1, 0", x.fixed(0), 3 + 10 + 3);
        x.go(2);
        due("17: ROWS 0 .. 3 by 1, 0", x.fixed(0), 4 * 3 + 10);
        due("17: what was paid", x.cost(0), 4 * 10 + 2 * 3);
        due("17: of TABLE 1 none was READ", x.fixed(1), 0);
        x.go(1);
        due("17: of TABLE 1", x.fixed(1), 8);
        for (int table : NO_TABLES) {
            due("17: table " + table, x.fixed(table), NONE);
        }
        x.test(0, 0, 1);
        x.row(0, 0, 0, 0);
        due("17: TESTS as that ASK had them", x.fixed(0), 4 * 3 + 10);
        x.ask();
        x.go(5);
        due("17: with a TEST that all fail", x.fixed(0), 5);
        TurningPlans y = withRows(values(1, 2, 3, 4), values());
        y.test(0, 101, 4);
        y.test(0, 201, 3);
        y.test(0, 202, 2);
        y.test(0, 203, 1);
        y.ask();
        y.go(4);
        // TEST 3 fails all but ROW 3, which then fails TEST 0.
        due("17: of four TESTS", y.fixed(0), 4 + 4);
        TurningPlans z = withRows(values(1, 2, 3), values());
        z.test(0, 99, 2);
        z.test(0, 200, 9);
        z.ask();
        z.go(3);
        due("17: of TESTS that all pass", z.fixed(0), 3 * 11);
    }

    private static void promise18Cost() {
        TurningPlans x = withRows(values(1, 2, 3), values(1, 2));
        x.test(0, 2, 20);
        x.test(0, 99, 7);
        x.test(1, 99, 50);
        due("18: before any ASK", x.cost(0), 0);
        x.force(0);
        x.ask();
        x.go(1);
        due("18: both TESTS", x.cost(0), 27);
        x.go(1);
        due("18: one TEST", x.cost(0), 47);
        due("18: READING isn't counted", x.count(1), 49);
        due("18: of TABLE 1", x.cost(1), 0);
        x.go(200);
        due("18: of TABLE 0 at the end", x.cost(0), 67);
        due("18: of TABLE 1 at the end", x.cost(1), 100);
        due("18: all that it cost", x.count(1), 67 + 100 + 5 + 1);
        for (int table : NO_TABLES) {
            due("18: table " + table, x.cost(table), NONE);
        }
        x.ask();
        due("18: of the next ASK", x.cost(0) + x.cost(1), 0);
    }

    private static void promise19Count() {
        TurningPlans x = withRows(values(1, 1, 2), values(1, 2));
        for (int what : values(-1, 10, MIN, MAX)) {
            due("19: what " + what, x.count(what), NONE);
        }
        x.memory(2);
        x.force(0);
        x.ask();
        CHECKS.due("19: at first", countsOf(x), "1 0 0 0 0 0 0 0 0 2");
        x.go(3);
        CHECKS.due("19: TABLE 0 was READ", countsOf(x), "1 3 0 2 1 3 0 0 0 2");
        x.go(1);
        CHECKS.due("19: a ROW of TABLE 1", countsOf(x), "1 5 1 2 2 3 1 1 0 2");
        x.go(1);
        CHECKS.due("19: both were READ", countsOf(x), "1 7 2 2 3 3 2 1 0 2");
        x.go(1);
        CHECKS.due("19: OVER", countsOf(x), "2 9 3 2 3 3 2 1 0 2");
        x.ask();
        x.stop();
        CHECKS.due("19: given up", countsOf(x), "0 0 0 0 0 0 0 0 0 2");
    }

    private static void promise19CountsOfTurns() {
        TurningPlans x = withRows(values(1, 2, 3, 4), values(5, 6, 7));
        x.force(1);
        x.ask();
        x.go(1);
        due("19: the first ROW is no going over", x.count(7), 0);
        x.force(0);
        due("19: forcing isn't either", x.count(7), 0);
        x.go(2);
        due("19: went over", x.count(7), 1);
        x.force(1);
        x.go(1);
        due("19: went over again", x.count(7), 2);
        x.go(2);
        due("19: went over as one is READ out", x.count(7), 3);
        x.go(200);
        due("19: TABLE 0 was READ last", x.count(0) * 10 + x.count(5), 24);
        x.ask();
        x.go(1);
        due("19: another ASK begins with TABLE 1", x.count(6), 1);
        due("19: the first ROW of another ASK is no going over", x.count(7), 0);
        TurningPlans y = withThreeTests(12);
        y.ask();
        y.order(0, 102);
        due("19: a FORCED ORDER is no turn", y.count(8), 0);
        y.go(4);
        due("19: it doesn't turn", y.count(8), 0);
        y.order(0, NONE);
        y.go(4);
        due("19: it turns", y.count(8), 1);
    }

    private PromisesTest() {
    }
}
