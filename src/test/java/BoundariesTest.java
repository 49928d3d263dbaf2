import java.util.HashSet;
import java.util.Set;

/**
 * Each sentence of the document that names a boundary case, in the document's order: the last value that is taken and
 * the first that is refused on each side, what is empty and what is full. (That a refused call changes nothing is what
 * RefusedTest tests.)
 */
public final class BoundariesTest extends Plans {
    private static final Checks CHECKS = new Checks("BoundariesTest");

    public static void main(String[] args) {
        termsTables();
        termsRowsAtMost50();
        termsColumnsOfRows();
        termsTestsAtMost4();
        termsWhatOfATest();
        termsPriceOfATest();
        termsKindsAtTheirBounds();
        termsJoinIsOf0AtFirst();
        termsPairPassesAllTests();
        termsPairIsAlikeInTheJoin();
        askIsNoneAtFirst();
        stayAsTheyAreWhileOneRuns();
        readsByNumbers();
        triedTillOneFails();
        givesWithRowsOfTheOtherTableInMemory();
        givesInTheOrderInWhichTheyCame();
        givesBeforeItSpills();
        memoryHolds100AtFirst();
        memoryIsFullButNotTooFull();
        memoryThatHoldsNone();
        spillsTheEarliestFirst();
        pointsAreEveryFourRows();
        pointsAreOfATableByItself();
        pointAtTheLastRow();
        turnsByPriceForEachThatFails();
        turnsOfLikeOnesByNumber();
        turnsNotIfForced();
        turnsWithNoTestOrOne();
        readsTheOtherIfOneIsReadOut();
        readsTheForcedTable();
        readsTheFirstOfLikeGains();
        latePairsInOrder();
        latePairsCostTwo();
        latePairsAreOnlyThoseNotGiven();
        overAsSoonAsNoneIsLeft();
        overAtOnceIfEmpty();
        plainOfNothingAndOfAll();
        fixedOfNothingAndOfAll();
        fixedByEachOrder();
        askBeginsAnew();
        givenStaysToldTillTheNext();
        goUpTo200Steps();
        orderTakesEachOrder();
        orderedAndToldOfEachTest();
        givenFromTheFirstToTheLast();
        whereOfTheFirstAndTheLastRow();
        sumOfNothingAndOfAll();
        countsAreTen();
        CHECKS.end();
    }

    private static void due(String call, long got, long want) {
        CHECKS.due(call, got, want);
    }

    private static void due(String call, boolean got, boolean want) {
        CHECKS.due(call, got, want);
    }

    private static void due(String call, String got, String want) {
        CHECKS.due(call, got, want);
    }

    private static TurningPlans forcedTo(int table, int[] values0, int[] values1) {
        TurningPlans x = withRows(values0, values1);
        x.force(table);
        return x;
    }

    /** "TABLES 0 and 1" */
    private static void termsTables() {
        for (int table = -3; table <= 4; table++) {
            TurningPlans x = withRows(values(1), values(1));
            boolean isOne = table == 0 || table == 1;
            int orNone = isOne ? 0 : NONE;
            due("row of table " + table, x.row(table, 1, 0, 0), isOne ? 1 : NONE);
            due("test of table " + table, x.test(table, 99, 7), orNone);
            due("ask", x.ask(), true);
            due("order of table " + table, x.order(table, 0), isOne);
            due("order NONE of table " + table, x.order(table, NONE), isOne);
            due("ordered of table " + table, x.ordered(table, 0), orNone);
            due("force to table " + table, x.force(table), isOne || table == NONE);
            x.go(200);
            due("told of table " + table, x.told(table, 0, 2), isOne ? 7 : NONE);
            due("given of table " + table, x.given(0, table), orNone);
            due("where of table " + table, x.where(table, 0), isOne ? 2 : NONE);
            due("sum of table " + table, x.sum(table, 0), isOne ? 2 : NONE);
            due("fixed of table " + table, x.fixed(table), isOne ? 14 : NONE);
            due("cost of table " + table, x.cost(table), isOne ? 14 : NONE);
        }
    }

    /** "ROWS with numbers as they come, at most 50 each"; "NONE if .. it has 50" */
    private static void termsRowsAtMost50() {
        for (int table = 0; table < 2; table++) {
            TurningPlans x = new TurningPlans();
            for (int number = 0; number < 50; number++) {
                due("there is no ROW " + number + " yet", x.where(table, number), NONE);
                due("ROW " + number, x.row(table, number, 99 - number, 7), number);
                due("there is a ROW " + number, x.where(table, number), 0);
            }
            for (int i = 0; i < 3; i++) {
                due("a ROW more than 50", x.row(table, 0, 0, 0), NONE);
            }
            due("there is no ROW 50", x.where(table, 50), NONE);
            due("the other TABLE is empty", x.where(1 - table, 0), NONE);
            due("the other TABLE has its own numbers", x.row(1 - table, 49, 0, 0), 0);
            x.ask();
            due("all are READ", x.go(200), 51);
            due("the last ROW is as it came", x.sum(table, 1), 99 - 49);
            due("after it, it still has 50", x.row(table, 0, 0, 0), NONE);
        }
    }

    /** "three COLUMNS (0 .. 99 each)"; "NONE if .. a COLUMN can't be" */
    private static void termsColumnsOfRows() {
        for (int value = -3; value <= 103; value++) {
            boolean isOne = value >= 0 && value <= 99;
            for (int table = 0; table < 2; table++) {
                TurningPlans x = new TurningPlans();
                due("c0 " + value, x.row(table, value, 5, 5), isOne ? 0 : NONE);
                due("c1 " + value, x.row(table, 5, value, 5), isOne ? 1 : NONE);
                due("c2 " + value, x.row(table, 5, 5, value), isOne ? 2 : NONE);
                due("after c0 .. c2 " + value, x.row(table, 5, 5, 5), isOne ? 3 : 0);
                due("c0 and c2 can't be", x.row(table, -1, 5, 100), NONE);
            }
        }
        TurningPlans x = new TurningPlans();
        x.row(0, 0, 99, 0);
        x.row(1, 99, 0, 99);
        x.join(1, 0);
        x.ask();
        x.go(2);
        due("0 and 99 are kept as they came",
                x.sum(0, 0) + " " + x.sum(0, 1) + " " + x.sum(0, 2) + " " + x.sum(1, 0) + " " + x.sum(1, 1) + " "
                        + x.sum(1, 2), "0 99 0 99 0 99");
    }

    /** "TESTS of a TABLE have numbers as they come, at most 4"; "NONE if .. it has 4" */
    private static void termsTestsAtMost4() {
        for (int table = 0; table < 2; table++) {
            TurningPlans x = withRows(values(1), values(1));
            for (int number = 0; number < 4; number++) {
                due("there is no TEST " + number + " yet", x.told(table, number, 2), NONE);
                due("TEST " + number, x.test(table, 99 - number, 10 + number), number);
                due("PRICE of TEST " + number, x.told(table, number, 2), 10 + number);
            }
            for (int i = 0; i < 3; i++) {
                due("a TEST more than 4", x.test(table, 0, 1), NONE);
            }
            due("there is no TEST 4", x.told(table, 4, 2), NONE);
            due("the other TABLE has none", x.told(1 - table, 0, 2), NONE);
            due("the other TABLE has its own numbers", x.test(1 - table, 99, 1), 0);
            x.ask();
            due("an ORDER has four", orderOf(x, table), "0123");
            due("and no fifth", x.ordered(table, 4), NONE);
            x.go(2);
            due("all four are TRIED", x.cost(table), 10 + 11 + 12 + 13);
            due("after it, it still has 4", x.test(table, 99, 1), NONE);
        }
    }

    /** "a COLUMN, a KIND (0 below, 1 like, 2 above), a BOUND (0 .. 99)"; "COLUMN * 1000 + KIND * 100 + BOUND" */
    private static void termsWhatOfATest() {
        for (int what = -3100; what <= 13100; what++) {
            boolean isOne = what >= 0 && what / 1000 <= 2 && what % 1000 / 100 <= 2;
            TurningPlans x = new TurningPlans();
            due("what " + what, x.test(what & 1, what, 1), isOne ? 0 : NONE);
            due("PRICE of what " + what, x.told(what & 1, 0, 2), isOne ? 1 : NONE);
        }
        for (int what : values(MIN, MIN + 1, -1000000, 100000, 1000000, MAX - 1, MAX)) {
            due("what " + what, new TurningPlans().test(0, what, 1), NONE);
        }
    }

    /** "a PRICE (1 .. 50)"; "NONE if .. PRICE can't" */
    private static void termsPriceOfATest() {
        for (int price = -3; price <= 53; price++) {
            boolean isOne = price >= 1 && price <= 50;
            for (int table = 0; table < 2; table++) {
                TurningPlans x = withRows(values(1), values(1));
                due("price " + price, x.test(table, 99, price), isOne ? 0 : NONE);
                due("PRICE that is told", x.told(table, 0, 2), isOne ? price : NONE);
                x.ask();
                x.go(2);
                due("PRICE that is paid", x.cost(table), isOne ? price : 0);
            }
        }
        for (int price : values(MIN, MAX)) {
            due("price " + price, new TurningPlans().test(0, 99, price), NONE);
        }
    }

    /** "KIND (0 below, 1 like, 2 above)": each BOUND against each value, in each COLUMN. */
    private static void termsKindsAtTheirBounds() {
        for (int column = 0; column < 3; column++) {
            for (int bound = 0; bound < 100; bound++) {
                for (int kind = 0; kind < 3; kind++) {
                    kindAtItsBound(column, kind, bound);
                }
            }
        }
    }

    private static void kindAtItsBound(int column, int kind, int bound) {
        TurningPlans x = new TurningPlans();
        for (int value = 0; value < 100; value++) {
            // The other COLUMNS have values that would mislead a TEST of a wrong COLUMN.
            int other = 99 - value;
            x.row(value / 50, column == 0 ? value : other, column == 1 ? value : other, column == 2 ? value : other);
        }
        x.test(0, column * 1000 + kind * 100 + bound, 1);
        x.test(1, column * 1000 + kind * 100 + bound, 1);
        x.ask();
        x.go(200);
        for (int value = 0; value < 100; value++) {
            boolean passes = kind == 0 ? value < bound : kind == 1 ? value == bound : value > bound;
            due("value " + value + ", KIND " + kind + ", BOUND " + bound + ", COLUMN " + column,
                    x.where(value / 50, value % 50), passes ? 2 : 1);
        }
    }

    /** "The JOIN is a COLUMN of each (0 at first)"; "false if there is no such COLUMN" */
    private static void termsJoinIsOf0AtFirst() {
        TurningPlans x = new TurningPlans();
        x.row(0, 4, 5, 6);
        x.row(1, 4, 8, 9);
        x.row(1, 7, 5, 9);
        x.row(1, 7, 8, 6);
        x.ask();
        x.go(4);
        due("by COLUMNS 0 at first", pairsOf(x), "0-0");
        for (int c0 = -2; c0 <= 4; c0++) {
            for (int c1 = -2; c1 <= 4; c1++) {
                due("join(" + c0 + ", " + c1 + ")", x.join(c0, c1), c0 >= 0 && c0 <= 2 && c1 >= 0 && c1 <= 2);
            }
        }
        x.join(1, 1);
        x.join(3, 2);
        x.join(2, 3);
        x.ask();
        x.go(4);
        due("by the last one that was taken", pairsOf(x), "0-1");
    }

    /** "both of which pass all TESTS of theirs" */
    private static void termsPairPassesAllTests() {
        for (int wrong = -1; wrong < 8; wrong++) {
            TurningPlans x = withRows(values(1), values(1));
            for (int i = 0; i < 8; i++) {
                x.test(i / 4, i == wrong ? 200 + 1 : 200, 1);
            }
            x.ask();
            x.go(2);
            due("all but TEST " + wrong + " pass", x.count(2) * 10 + x.plain(), wrong < 0 ? 11 : 0);
            due("TABLE 0 fails", x.where(0, 0), wrong >= 0 && wrong < 4 ? 1 : 2);
            due("TABLE 1 fails", x.where(1, 0), wrong >= 4 ? 1 : 2);
        }
    }

    /** "and are alike in these" */
    private static void termsPairIsAlikeInTheJoin() {
        int[] ends = {0, 1, 50, 98, 99};
        for (int value0 : ends) {
            for (int value1 : ends) {
                TurningPlans x = withRows(values(value0), values(value1));
                x.ask();
                x.go(2);
                due(value0 + " and " + value1, x.count(2) * 10 + x.plain(), value0 == value1 ? 11 : 0);
            }
        }
    }

    /** "An ASK is NONE at first, RUNS, or is OVER." */
    private static void askIsNoneAtFirst() {
        TurningPlans x = withRows(values(1), values(1));
        due("NONE at first", x.count(0), 0);
        due("nothing to stop", x.stop(), false);
        due("nothing to go", x.go(0), NONE);
        x.ask();
        due("RUNS", x.count(0), 1);
        due("a step", x.go(1), 1);
        due("still RUNS", x.count(0), 1);
        x.go(1);
        due("OVER", x.count(0), 2);
        due("OVER isn't stopped", x.stop(), false);
        due("still OVER", x.count(0), 2);
        x.ask();
        due("RUNS again", x.count(0), 1);
        x.stop();
        due("NONE again", x.count(0), 0);
        due("NONE isn't stopped", x.stop(), false);
        x.ask();
        due("RUNS a third time", x.count(0), 1);
    }

    /** "While it RUNS, ROWS, TESTS and the JOIN stay as they are." */
    private static void stayAsTheyAreWhileOneRuns() {
        TurningPlans x = withRows(values(1, 1), values(1, 1));
        x.memory(0);
        x.ask();
        for (int steps = 0; steps < 8; steps++) {
            due("RUNS at step " + steps, x.count(0), 1);
            due("row at step " + steps, x.row(steps & 1, 1, 1, 1), NONE);
            due("test at step " + steps, x.test(steps & 1, 0, 1), NONE);
            due("join at step " + steps, x.join(1, 2), false);
            due("ask at step " + steps, x.ask(), false);
            due("step " + steps, x.go(1), 1);
        }
        due("OVER", x.count(0), 2);
        due("all PAIRS", pairsOf(x), "0-0 0-1 1-0 1-1");
        due("row when OVER", x.row(0, 1, 1, 1), 2);
        due("test when OVER", x.test(0, 99, 1), 0);
        due("join when OVER", x.join(1, 1), true);
        due("ask when OVER", x.ask(), true);
        x.stop();
        due("row when given up", x.row(0, 1, 1, 1), 3);
        due("test when given up", x.test(0, 99, 1), 1);
        due("join when given up", x.join(1, 1), true);
        due("ask when given up", x.ask(), true);
    }

    /** "It READS ROWS, by numbers, from one TABLE or the other." */
    private static void readsByNumbers() {
        TurningPlans x = forcedTo(1, values(3, 2, 1), values(6, 5, 4));
        x.ask();
        String[] places = {"000 000", "000 200", "000 220", "000 222", "200 222", "220 222", "222 222"};
        for (int step = 0; step < places.length; step++) {
            due("places after step " + step, placesOf(x, 0) + " " + placesOf(x, 1), places[step]);
            x.go(1);
        }
    }

    /** "READING a ROW costs 1; then TESTS .. are TRIED in their ORDER, each costs its PRICE, till one fails." */
    private static void triedTillOneFails() {
        int[] costs = {1 + 1, 1 + 1 + 2, 1 + 1 + 2 + 4, 1 + 1 + 2 + 4 + 8, 1 + 1 + 2 + 4 + 8};
        for (int failing = 0; failing <= 4; failing++) {
            TurningPlans x = withRows(values(5), values());
            for (int test = 0; test < 4; test++) {
                x.test(0, test == failing ? 5 : 6, 1 << test);
            }
            x.ask();
            due("the one ROW", x.go(1), 1);
            due("cost, TEST " + failing + " fails", x.count(1), costs[failing]);
            due("cost of TESTS, TEST " + failing + " fails", x.cost(0), costs[failing] - 1);
            for (int test = 0; test < 4; test++) {
                due("TRIED " + test + ", TEST " + failing + " fails", x.told(0, test, 0), test <= failing ? 1 : 0);
                due("failed " + test + ", TEST " + failing + " fails", x.told(0, test, 1), test == failing ? 1 : 0);
            }
            due("where, TEST " + failing + " fails", x.where(0, 0), failing < 4 ? 1 : 2);
            due("in MEMORY, TEST " + failing + " fails", x.count(3), failing < 4 ? 0 : 1);
        }
        TurningPlans y = withRows(values(5), values());
        y.ask();
        y.go(1);
        due("no TESTS: READING costs 1", y.count(1), 1);
        due("no TESTS: all pass", y.where(0, 0), 2);
    }

    /** "it GIVES the PAIRS with ROWS of the other TABLE that are in MEMORY and alike in the JOIN" */
    private static void givesWithRowsOfTheOtherTableInMemory() {
        // Of TABLE 0, ROW 0 fails, ROW 1 will be SPILLED, ROW 2 is in MEMORY, ROW 3 is not alike.
        TurningPlans x = forcedTo(0, values(1, 1, 1, 2), values(1, 1));
        x.test(0, 1200, 1);
        x.ask();
        x.go(4);
        due("none with ROWS of its own TABLE", x.count(2), 0);
        x.memory(2);
        x.go(1);
        due("with what is in MEMORY", pairsOf(x), "2-0");
        due("each costs 1", x.count(1), 5 + 4 + 1);
        x.memory(1);
        due("only ROW 0 of TABLE 1 is left", placesOf(x, 0) + " " + placesOf(x, 1), "1333 20");
        x.go(1);
        due("none with nothing in MEMORY", pairsOf(x), "2-0");
        due("nothing given costs nothing", x.count(1), 5 + 4 + 1 + 1);
        x.go(200);
        due("none with a ROW that failed", pairsOf(x), "2-0 1-0 1-1 2-1");
        TurningPlans y = forcedTo(0, values(1), values(1));
        y.test(1, 1200, 1);
        y.ask();
        y.go(2);
        due("a ROW that fails gives none", y.count(2), 0);
    }

    /** "in the order in which those came to it" */
    private static void givesInTheOrderInWhichTheyCame() {
        TurningPlans x = forcedTo(1, values(1, 1), values(1, 1, 1));
        x.ask();
        x.go(2);
        x.force(0);
        x.go(1);
        due("by coming", pairsOf(x), "0-0 0-1");
        x.force(1);
        x.go(1);
        due("of the other TABLE", pairsOf(x), "0-0 0-1 0-2");
        x.go(1);
        due("the last ROW", pairsOf(x), "0-0 0-1 0-2 1-0 1-1 1-2");
    }

    /** "Then the ROW comes to MEMORY itself. While there are more .., the one that came earliest is SPILLED." */
    private static void givesBeforeItSpills() {
        TurningPlans x = forcedTo(0, values(1, 1), values(1));
        x.memory(1);
        x.ask();
        x.go(2);
        due("the ROW before was SPILLED", placesOf(x, 0), "32");
        x.go(1);
        due("it GIVES, and then SPILLS", pairsOf(x), "1-0");
        due("it is the last one in MEMORY", placesOf(x, 0) + placesOf(x, 1), "332");
    }

    /** "than it holds (0 .. 100, 100 at first)"; "true; false if it can't" */
    private static void memoryHolds100AtFirst() {
        TurningPlans x = new TurningPlans();
        due("at first", x.count(9), 100);
        int holds = 100;
        for (int rows = -3; rows <= 103; rows++) {
            boolean isOne = rows >= 0 && rows <= 100;
            due("memory(" + rows + ")", x.memory(rows), isOne);
            holds = isOne ? rows : holds;
            due("it holds", x.count(9), holds);
        }
        due("memory(MIN)", x.memory(MIN), false);
        due("memory(MAX)", x.memory(MAX), false);
        x.memory(17);
        x.ask();
        due("an ASK leaves it", x.count(9), 17);
    }

    private static void memoryIsFullButNotTooFull() {
        for (int holds : values(0, 1, 2, 49, 50, 51, 98, 99, 100)) {
            TurningPlans x = withRows(likeValues(50, 1), likeValues(50, 2));
            x.memory(holds);
            x.ask();
            x.go(holds);
            due("as many as it holds", x.count(3) * 1000 + x.count(4), holds * 1000);
            due("one more", x.go(1), holds < 100 ? 1 : NONE);
            due("is SPILLED", x.count(3) * 1000 + x.count(4), holds * 1000 + (holds < 100 ? 1 : 0));
        }
        TurningPlans y = withRows(likeValues(3, 1), values());
        y.ask();
        y.go(3);
        y.memory(3);
        due("just what it has", y.count(3) * 10 + y.count(4), 30);
        y.memory(2);
        due("one less", y.count(3) * 10 + y.count(4), 21);
        y.memory(2);
        due("the same again", y.count(3) * 10 + y.count(4), 21);
    }

    private static void memoryThatHoldsNone() {
        TurningPlans x = withRows(values(1, 1), values(1, 1));
        x.memory(0);
        x.ask();
        for (int step = 1; step <= 4; step++) {
            x.go(1);
            due("nothing is kept", x.count(3), 0);
            due("each is SPILLED", x.count(4), step);
            due("nothing is given by READING", x.count(2), 0);
        }
        x.go(200);
        due("all PAIRS are late", pairsOf(x), "0-0 0-1 1-0 1-1");
    }

    /** "the one that came earliest is SPILLED"; "(What is too much is SPILLED at once.)" */
    private static void spillsTheEarliestFirst() {
        TurningPlans x = forcedTo(1, values(1, 2), values(3, 4));
        x.ask();
        x.go(1);
        x.force(0);
        x.go(2);
        x.go(1);
        String[] places = {"22 22", "22 32", "32 32", "33 32", "33 33"};
        for (int holds = 4; holds >= 0; holds--) {
            x.memory(holds);
            due("places with " + holds, placesOf(x, 0) + " " + placesOf(x, 1), places[4 - holds]);
        }
        x.memory(100);
        due("none comes back", placesOf(x, 0) + " " + placesOf(x, 1), "33 33");
        due("SPILLED ever", x.count(4), 4);
    }

    /** "POINTS: when 4, 8, 12, .. ROWS of a TABLE were READ, its ORDER turns" */
    private static void pointsAreEveryFourRows() {
        // At each POINT the FORCED ORDER is given back, so that a turn shows wherever there is one.
        for (int free = 0; free < 50; free++) {
            TurningPlans x = withRows(likeValues(50, 1), values());
            x.test(0, 99, 1);
            x.test(0, 99, 1);
            x.ask();
            x.order(0, 1);
            x.go(free);
            due("FORCED till " + free, orderOf(x, 0), "10");
            x.order(0, NONE);
            due("not FORCED any more", orderOf(x, 0), "10");
            int point = free / 4 * 4 + 4;
            if (point <= 50) {
                x.go(point - 1 - free);
                due("before the POINT " + point, orderOf(x, 0) + x.count(8), "100");
                x.go(1);
                due("at the POINT " + point, orderOf(x, 0) + x.count(8), "011");
            } else {
                x.go(200);
                due("no POINT behind 48", orderOf(x, 0) + x.count(8), "100");
            }
        }
    }

    private static void pointsAreOfATableByItself() {
        TurningPlans x = forcedTo(0, likeValues(8, 1), likeValues(8, 2));
        for (int table = 0; table < 2; table++) {
            x.test(table, 99, 9);
            x.test(table, 0, 1);
        }
        x.ask();
        x.go(3);
        x.force(1);
        x.go(1);
        due("four ROWS of both", orderOf(x, 0) + orderOf(x, 1), "0101");
        x.go(2);
        due("three of TABLE 1", orderOf(x, 0) + orderOf(x, 1), "0101");
        x.go(1);
        due("four of TABLE 1", orderOf(x, 0) + orderOf(x, 1), "0110");
        x.force(0);
        x.go(1);
        due("four of TABLE 0", orderOf(x, 0) + orderOf(x, 1), "1010");
        due("both turned", x.count(8), 2);
    }

    private static void pointAtTheLastRow() {
        for (int rows = 3; rows <= 5; rows++) {
            TurningPlans x = withRows(likeValues(rows, 1), values());
            x.test(0, 99, 9);
            x.test(0, 0, 1);
            x.ask();
            x.go(rows);
            due("OVER", x.count(0), 2);
            due("ORDER after " + rows, orderOf(x, 0), rows < 4 ? "01" : "10");
            due("turns after " + rows, x.count(8), rows < 4 ? 0 : 1);
            x.stop();
            due("it stays told", x.ordered(0, 0), rows < 4 ? 0 : 1);
        }
    }

    /** "PRICE times (TRIED and 2) by (failed and 1), the least first" */
    private static void turnsByPriceForEachThatFails() {
        for (int price0 = 1; price0 <= 50; price0++) {
            for (int price1 = 1; price1 <= 50; price1 += 7) {
                TurningPlans x = withRows(values(1, 9, 9, 9), values());
                x.test(0, 5, price0);
                x.test(0, 200, price1);
                x.ask();
                x.go(4);
                // TEST 0 was TRIED by 4 and failed 3, TEST 1 was TRIED by 1.
                boolean isFirst = price0 * (4 + 2) * 1 <= price1 * (1 + 2) * (3 + 1);
                due("prices " + price0 + " " + price1, orderOf(x, 0), isFirst ? "01" : "10");
            }
        }
        TurningPlans y = withRows(likeValues(50, 1), values());
        y.test(0, 0, 50);
        y.test(0, 99, 50);
        y.test(0, 99, 2);
        y.test(0, 99, 1);
        y.ask();
        y.go(50);
        // At 4: 60, 100, 4, 2; till 24: 50 * 26 / 25 is above 2 * 22; at 28: 50 * 30 / 29 is below 2 * 26.
        due("ORDER at the end", orderOf(y, 0) + y.count(8), "30212");
        due("TRIED at the end", y.told(0, 0, 0) + " " + y.told(0, 2, 0) + " " + y.told(0, 3, 0), "50 24 46");
        due("failed at the end", y.told(0, 0, 1) + " " + y.told(0, 2, 1) + " " + y.told(0, 3, 1), "50 0 0");
        due("cost at the end", y.cost(0), 4 * 50 + 24 * (1 + 2 + 50) + 22 * (1 + 50));
    }

    /** "of like ones the least number" */
    private static void turnsOfLikeOnesByNumber() {
        TurningPlans x = withRows(values(9, 1, 1, 1), values());
        x.test(0, 5, 10);
        x.test(0, 99, 6);
        x.ask();
        x.go(4);
        // 10 * (4 + 2) / (1 + 1) = 6 * (3 + 2) / (0 + 1)
        due("like ones of different PRICES", orderOf(x, 0) + x.count(8), "010");
        TurningPlans y = withRows(values(9, 1, 1, 1), values());
        y.test(0, 99, 6);
        y.test(0, 5, 10);
        y.ask();
        y.order(0, 1);
        y.go(3);
        y.order(0, NONE);
        y.go(1);
        // The same, but TEST 1 was TRIED first: the turn puts TEST 0 first.
        due("like ones, the greater number TRIED first", orderOf(y, 0) + y.count(8), "011");
        TurningPlans z = withRows(likeValues(4, 1), values());
        for (int i = 0; i < 4; i++) {
            z.test(0, 99, 3);
        }
        z.ask();
        z.order(0, 123);
        z.order(0, NONE);
        z.go(4);
        due("four like ones", orderOf(z, 0) + z.count(8), "01231");
    }

    /** "If its ORDER is FORCED, it stays." */
    private static void turnsNotIfForced() {
        TurningPlans x = forcedTo(0, likeValues(12, 1), likeValues(8, 1));
        for (int table = 0; table < 2; table++) {
            x.test(table, 99, 9);
            x.test(table, 0, 1);
        }
        x.ask();
        x.order(0, 10);
        x.go(12);
        due("it stays at all POINTS", orderOf(x, 0) + x.count(8), "010");
        x.go(4);
        due("the other one turns", orderOf(x, 1) + x.count(8), "101");
        due("FORCED to what it is", x.order(1, 1), true);
        x.go(3);
        due("not FORCED any more", x.order(1, NONE), true);
        x.go(1);
        due("that is no turn to another one", orderOf(x, 1) + x.count(8), "101");
    }

    private static void turnsWithNoTestOrOne() {
        TurningPlans x = withRows(likeValues(50, 1), likeValues(50, 2));
        x.test(1, 99, 50);
        x.ask();
        due("FORCED without TESTS", x.order(0, 0), true);
        due("FORCED with one", x.order(1, 0), true);
        x.order(0, NONE);
        x.order(1, NONE);
        x.go(200);
        due("OVER", x.count(0), 2);
        due("there is no other ORDER", orderOf(x, 0) + orderOf(x, 1) + x.count(8), "00");
    }

    /** "Which TABLE is READ: if one is READ out, the other one" */
    private static void readsTheOtherIfOneIsReadOut() {
        for (int forced = 0; forced < 2; forced++) {
            int[] few = values(1);
            int[] more = values(2, 3, 4);
            TurningPlans x = forced == 0 ? forcedTo(0, few, more) : forcedTo(1, more, few);
            x.ask();
            x.go(2);
            due("READ of the FORCED one", x.count(5 + forced), 1);
            due("READ of the other one", x.count(6 - forced), 1);
            x.go(200);
            due("READ of the other one, all", x.count(6 - forced), 3);
            due("went over once", x.count(7), 1);
            TurningPlans y = forced == 0 ? forcedTo(0, values(), more) : forcedTo(1, more, values());
            y.ask();
            due("the FORCED one is empty", y.go(200), 3);
            due("READ of the one with ROWS", y.count(6 - forced), 3);
            due("it never went over", y.count(7), 0);
        }
        TurningPlans z = withRows(values(1), values(1, 1, 1));
        z.test(1, 99, 50);
        z.ask();
        z.go(4);
        due("whatever its gain", readOf(z), "1 3");
    }

    /** "if a TABLE is FORCED, that one"; "(NONE: isn't any more)"; "false if there is none such" */
    private static void readsTheForcedTable() {
        for (int table = -4; table <= 4; table++) {
            due("force(" + table + ")", new TurningPlans().force(table), table >= -1 && table <= 1);
        }
        due("force(MIN)", new TurningPlans().force(MIN), false);
        due("force(MAX)", new TurningPlans().force(MAX), false);
        TurningPlans x = withRows(values(1, 2, 3, 4, 5), values(6, 7, 8, 9, 10));
        x.test(0, 99, 50);
        x.ask();
        x.force(0);
        x.go(3);
        due("whatever its gain", readOf(x), "3 0");
        x.force(NONE);
        x.go(2);
        due("by gain again", readOf(x), "3 2");
        x.force(0);
        x.force(2);
        x.force(-2);
        x.go(2);
        due("a refused one doesn't free it", readOf(x), "5 2");
    }

    /** "else that with the greater GAIN ..; of like ones the first one" */
    private static void readsTheFirstOfLikeGains() {
        TurningPlans x = withRows(values(1, 2, 3), values(4, 5, 6));
        x.ask();
        String[] read = {"1 0", "1 1", "2 1", "2 2", "3 2", "3 3"};
        for (String want : read) {
            x.go(1);
            due("in turns", readOf(x), want);
        }
        due("went over each time", x.count(7), 5);
        // After TABLE 0 cost 5 and TABLE 1 cost 2 with a PAIR: 1 / 6 and 2 / 3; then 1 / 6 and 2 / (3 + 9).
        TurningPlans y = withRows(values(1, 2), values(1, 3, 3, 3, 3, 3, 3, 3, 3, 3, 3));
        y.test(0, 99, 4);
        y.ask();
        y.go(11);
        due("TABLE 1 till its gain is the same", readOf(y), "1 10");
        y.go(1);
        due("like gains of different PAIRS", readOf(y), "2 10");
    }

    /** "each further step GIVES a PAIR that wasn't given .., by ROWS of TABLE 0, of one by those of TABLE 1" */
    private static void latePairsInOrder() {
        TurningPlans x = forcedTo(1, values(2, 1, 2), values(1, 2, 2, 1));
        x.memory(0);
        x.ask();
        due("READING", x.go(7), 7);
        String[] pairs = {"", "0-1", "0-1 0-2", "0-1 0-2 1-0", "0-1 0-2 1-0 1-3", "0-1 0-2 1-0 1-3 2-1",
            "0-1 0-2 1-0 1-3 2-1 2-2"};
        for (int late = 0; late < pairs.length; late++) {
            due("PAIRS after " + late, pairsOf(x), pairs[late]);
            due("RUNS after " + late, x.count(0), late < 6 ? 1 : 2);
            due("step after " + late, x.go(1), late < 6 ? 1 : NONE);
        }
    }

    /** "it costs 2" */
    private static void latePairsCostTwo() {
        TurningPlans x = withRows(values(1, 1), values(1, 1));
        x.memory(0);
        x.ask();
        x.go(4);
        for (int late = 0; late < 4; late++) {
            due("cost before late PAIR " + late, x.count(1), 4 + 2 * late);
            x.go(1);
        }
        due("cost of all", x.count(1), 4 + 2 * 4);
        due("no TEST was paid", x.cost(0) + x.cost(1), 0);
        due("nothing was READ", readOf(x), "2 2");
        due("READING didn't go over", x.count(7), 3);
    }

    /** "(because a ROW was SPILLED)": "each pair is given once, whatever turns were made" */
    private static void latePairsAreOnlyThoseNotGiven() {
        for (int holds = 0; holds <= 12; holds++) {
            TurningPlans x = withRows(values(1, 2, 1, 2, 1, 2), values(2, 2, 1, 1, 2, 1));
            x.memory(holds);
            x.ask();
            x.go(200);
            due("each PAIR once with " + holds, x.count(2), 18);
            due("all are different with " + holds, Set.of(pairsOf(x).split(" ")).size(), 18);
            due("OVER with " + holds, x.count(0), 2);
        }
        TurningPlans y = forcedTo(0, values(1, 1), values(1, 1));
        y.ask();
        y.go(4);
        due("OVER, nothing was SPILLED", y.count(0), 2);
        TurningPlans z = forcedTo(0, values(1, 1), values(1, 1));
        z.ask();
        z.go(3);
        z.memory(0);
        z.go(1);
        due("two are left", pairsOf(z) + " " + z.count(0), "0-0 1-0 1");
        z.memory(100);
        z.go(200);
        due("those that were not given", pairsOf(z), "0-0 1-0 0-1 1-1");
    }

    /** "As soon as both are READ out and no such PAIR is left, it is OVER" */
    private static void overAsSoonAsNoneIsLeft() {
        for (int rows0 = 0; rows0 <= 3; rows0++) {
            for (int rows1 = 0; rows1 <= 3; rows1++) {
                for (int holds = 0; holds <= 6; holds += 6) {
                    TurningPlans x = withRows(likeValues(rows0, 1), likeValues(rows1, 1));
                    x.memory(holds);
                    x.ask();
                    int steps = rows0 + rows1 + (holds == 0 ? rows0 * rows1 : 0);
                    for (int step = 0; step < steps; step++) {
                        due("RUNS before step " + step + " of " + steps, x.count(0), 1);
                        due("step " + step, x.go(1), 1);
                    }
                    due("OVER after " + steps, x.count(0), 2);
                    due("no step more", x.go(1), NONE);
                    due("all PAIRS", x.count(2), rows0 * rows1);
                }
            }
        }
    }

    /** "(an ASK of empty TABLES at once)" */
    private static void overAtOnceIfEmpty() {
        TurningPlans x = new TurningPlans();
        x.test(0, 99, 1);
        x.memory(0);
        x.force(1);
        due("ask", x.ask(), true);
        due("OVER at once", countsOf(x), "2 0 0 0 0 0 0 0 0 0");
        due("its ORDER is told", orderOf(x, 0), "0");
        due("no step", x.go(0), NONE);
        due("no stop", x.stop(), false);
        due("no ORDER", x.order(0, 0), false);
        due("again", x.ask(), true);
        due("a ROW", x.row(1, 1, 1, 1), 0);
        due("it is OVER all the same", x.count(0), 2);
        x.ask();
        due("one TABLE isn't empty", x.count(0), 1);
    }

    /** "PLAIN is how many PAIRS there are at all." */
    private static void plainOfNothingAndOfAll() {
        due("of empty TABLES", new TurningPlans().plain(), 0);
        due("of an empty TABLE 0", withRows(values(), values(1, 1)).plain(), 0);
        due("of an empty TABLE 1", withRows(values(1, 1), values()).plain(), 0);
        for (int value : values(0, 1, 98, 99)) {
            TurningPlans x = withRows(likeValues(50, value), likeValues(50, value));
            due("of full TABLES", x.plain(), 2500);
            due("told again", x.plain(), 2500);
            x.test(0, 1200, 1);
            x.test(1, 1048, 1);
            due("without a ROW of 0 and two of 1", x.plain(), 49 * 48);
            x.ask();
            due("whatever was given", x.plain(), 49 * 48);
            x.go(3);
            x.stop();
            due("whatever was given up", x.plain(), 49 * 48);
        }
    }

    /** "FIXED of a TABLE: the least sum of what TESTS of the ROWS that were READ would have cost" */
    private static void fixedOfNothingAndOfAll() {
        TurningPlans x = withRows(likeValues(50, 1), likeValues(50, 2));
        for (int i = 0; i < 4; i++) {
            x.test(0, 200, 50);
        }
        due("before any ASK", x.fixed(0) + x.fixed(1), 0);
        x.force(0);
        x.ask();
        for (int read = 0; read <= 50; read++) {
            due("of " + read + " ROWS", x.fixed(0), read * 200);
            due("what was paid for " + read, x.cost(0), read * 200);
            x.go(1);
        }
        x.go(200);
        due("without TESTS, the 1 for READING isn't counted", x.fixed(1) + x.cost(1), 0);
        due("all that it cost", x.count(1), 100 + 10000);
        x.test(1, 0, 50);
        x.row(1, 0, 0, 0);
        due("TESTS as that ASK had them", x.fixed(1), 0);
        x.ask();
        due("of the next ASK", x.fixed(0) + x.fixed(1), 0);
        x.force(1);
        x.go(1);
        due("with TESTS of the next ASK", x.fixed(1), 50);
        x.stop();
        due("it stays told", x.fixed(1), 50);
    }

    /** "by one ORDER throughout": each of the 24 ORDERS is the cheapest one of some TABLE. */
    private static void fixedByEachOrder() {
        int orders = 0;
        for (int digits = 0; digits <= 3210; digits++) {
            if (isOrder(digits, 4)) {
                fixedBy(digits);
                orders++;
            }
        }
        due("ORDERS of four TESTS", orders, 24);
    }

    private static void fixedBy(int digits) {
        int[] prices = new int[4];
        int rest = digits;
        for (int k = 0; k < 4; k++) {
            prices[rest % 10] = k + 1;
            rest /= 10;
        }
        TurningPlans x = withRows(likeValues(10, 1), values());
        for (int test = 0; test < 4; test++) {
            // The cheapest one fails all ROWS but ROW 0, the next one fails that.
            x.test(0, prices[test] == 1 ? 1100 : prices[test] == 2 ? 1200 : 99, prices[test]);
        }
        x.ask();
        x.order(0, digits);
        x.go(10);
        due("cost by the ORDER " + digits, x.cost(0), 10 + 2);
        due("FIXED by the ORDER " + digits, x.fixed(0), 10 + 2);
    }

    /** Promise 5: "An ASK begins anew (ORDERS by numbers, nothing READ, in MEMORY or given)" */
    private static void askBeginsAnew() {
        for (int steps = 0; steps <= 12; steps++) {
            TurningPlans x = withRows(values(1, 1, 1, 1), values(1, 1));
            x.test(0, 99, 9);
            x.test(0, 1203, 1);
            x.test(0, 1090, 1);
            x.test(1, 99, 1);
            x.ask();
            String first = allOf(x);
            x.memory(steps % 4);
            x.go(steps);
            x.stop();
            x.memory(100);
            due("ask after " + steps, x.ask(), true);
            due("anew after " + steps, allOf(x), first);
            due("ask while it RUNS", x.ask(), false);
        }
    }

    /** Promise 6: "What was given stays told till the next one" */
    private static void givenStaysToldTillTheNext() {
        for (int steps = 0; steps < 8; steps++) {
            TurningPlans x = withRows(values(1, 1), values(1, 1));
            x.memory(0);
            x.ask();
            x.go(steps);
            String told = allOf(x);
            due("stop after " + steps, x.stop(), true);
            due("all is told after " + steps, allOf(x), told.replace("counts 1", "counts 0"));
            x.row(0, 9, 9, 9);
            x.test(0, 0, 1);
            x.join(2, 2);
            due("PAIRS are told after changes", x.count(2), Math.max(0, steps - 4));
            due("their sum is told after changes", x.sum(0, 0), Math.max(0, steps - 4));
            x.ask();
            due("the next one", x.count(2) + x.sum(0, 0), 0);
            due("none is told", x.given(0, 0), NONE);
        }
    }

    /** Promise 7: "as many as there are (0 .. 200): how many; NONE for another n, or if no ASK RUNS" */
    private static void goUpTo200Steps() {
        for (int n = -3; n <= 203; n++) {
            boolean isOne = n >= 0 && n <= 200;
            TurningPlans x = withRows(likeValues(12, 1), likeValues(12, 1));
            due("no ASK, go(" + n + ")", x.go(n), NONE);
            x.memory(0);
            x.ask();
            due("168 steps, go(" + n + ")", x.go(n), isOne ? Math.min(n, 24 + 144) : NONE);
            due("READ by go(" + n + ")", x.count(5) + x.count(6), isOne ? Math.min(n, 24) : 0);
            due("PAIRS by go(" + n + ")", x.count(2), isOne ? Math.min(Math.max(n - 24, 0), 144) : 0);
            due("state after go(" + n + ")", x.count(0), isOne && n >= 168 ? 2 : 1);
            TurningPlans y = withRows(likeValues(50, 1), likeValues(50, 1));
            y.memory(0);
            y.ask();
            due("2600 steps, go(" + n + ")", y.go(n), isOne ? n : NONE);
            y.stop();
            due("given up, go(" + n + ")", y.go(n), NONE);
        }
        TurningPlans z = withRows(likeValues(50, 1), likeValues(50, 1));
        z.memory(0);
        z.ask();
        for (int i = 0; i < 13; i++) {
            due("RUNS before go " + i, z.count(0), 1);
            due("200 of 2600 steps", z.go(200), 200);
        }
        due("OVER after 2600", z.count(0), 2);
        due("OVER, go(0)", z.go(0), NONE);
    }

    /** Promise 10: "digits of the numbers of its TESTS, its first one the lowest"; "all its TESTS, each once" */
    private static void orderTakesEachOrder() {
        for (int tests = 0; tests <= 4; tests++) {
            for (int digits = -300; digits <= 4500; digits++) {
                orderTakes(digits, tests);
            }
            for (int digits : values(MIN, -3210, 10123, 10210, 13210, 32100, 43210, 1000000210, 2000000010, MAX)) {
                orderTakes(digits, tests);
            }
        }
    }

    private static void orderTakes(int digits, int tests) {
        TurningPlans x = withRows(values(1), values(1));
        for (int test = 0; test < tests; test++) {
            x.test(1, 99, 1);
        }
        x.ask();
        boolean isOne = isOrder(digits, tests);
        due("order(1, " + digits + ") of " + tests, x.order(1, digits), isOne || digits == NONE);
        due("ORDER by " + digits, orderOf(x, 1), isOne ? orderBy(digits, tests) : "0123".substring(0, tests));
    }

    private static boolean isOrder(int digits, int tests) {
        String order = orderBy(digits, tests);
        boolean hasAll = order.length() == tests && digits >= 0;
        for (int test = 0; test < tests; test++) {
            hasAll &= order.indexOf('0' + test) >= 0;
        }
        return hasAll;
    }

    /** The digits from the lowest one on, with the zeros before them that a number doesn't show. */
    private static String orderBy(int digits, int tests) {
        StringBuilder text = new StringBuilder(digits == 0 ? "" : Integer.toString(digits)).reverse();
        while (text.length() < tests) {
            text.append('0');
        }
        return text.toString();
    }

    /** Promises 11 and 12: "(from 0 on); NONE if there is none such"; "NONE for others, or if there is none such" */
    private static void orderedAndToldOfEachTest() {
        for (int tests = 0; tests <= 4; tests++) {
            TurningPlans x = withRows(values(1), values());
            for (int test = 0; test < tests; test++) {
                x.test(0, 99, 10 + test);
            }
            due("no ASK yet", x.ordered(0, 0), NONE);
            x.ask();
            x.go(1);
            for (int k = -3; k <= 7; k++) {
                boolean isOne = k >= 0 && k < tests;
                due("ordered " + k + " of " + tests, x.ordered(0, k), isOne ? k : NONE);
                due("ordered of the other TABLE", x.ordered(1, k), NONE);
                for (int what = -3; what <= 6; what++) {
                    int want = what == 0 ? 1 : what == 1 ? 0 : what == 2 ? 10 + k : NONE;
                    due("told " + k + " of " + tests + ", " + what, x.told(0, k, what), isOne ? want : NONE);
                    due("told of the other TABLE", x.told(1, k, what), NONE);
                }
            }
        }
    }

    /** Promise 13: "The i-th PAIR that was given (from 0 on) ..; NONE if there is none such." */
    private static void givenFromTheFirstToTheLast() {
        for (int rows = 0; rows <= 50; rows += 10) {
            TurningPlans x = askedOfAlikeRows(rows);
            int last = rows * rows - 1;
            due("i -1", x.given(-1, 0) + x.given(-1, 1), NONE + NONE);
            due("the first", x.given(0, 0) + x.given(0, 1), rows == 0 ? NONE + NONE : 0);
            due("the last", x.given(last, 0) + x.given(last, 1), rows == 0 ? NONE + NONE : 2 * rows - 2);
            due("behind the last", x.given(last + 1, 0) + x.given(last + 1, 1), NONE + NONE);
            due("all are different", differentPairs(rows), rows * rows);
        }
    }

    private static TurningPlans askedOfAlikeRows(int rows) {
        TurningPlans x = withRows(likeValues(rows, 1), likeValues(rows, 1));
        x.ask();
        x.go(200);
        return x;
    }

    private static int differentPairs(int rows) {
        Set<Integer> pairs = new HashSet<>();
        TurningPlans x = askedOfAlikeRows(rows);
        for (int i = 0; i < rows * rows; i++) {
            // An object is promised for 512 calls alone.
            if (i % 200 == 0) {
                x = askedOfAlikeRows(rows);
            }
            pairs.add(x.given(i, 0) * 50 + x.given(i, 1));
        }
        return pairs.size();
    }

    /** Promise 14: "NONE if there is none such" */
    private static void whereOfTheFirstAndTheLastRow() {
        for (int rows : values(0, 1, 49, 50)) {
            TurningPlans x = withRows(values(), likeValues(rows, 1));
            for (int row = -2; row <= 53; row++) {
                due("row " + row + " of " + rows, x.where(1, row), row >= 0 && row < rows ? 0 : NONE);
            }
            x.ask();
            x.go(rows);
            for (int row = -2; row <= 53; row++) {
                due("READ row " + row + " of " + rows, x.where(1, row), row >= 0 && row < rows ? 2 : NONE);
                due("row " + row + " of an empty TABLE", x.where(0, row), NONE);
            }
        }
    }

    /** Promise 15: "over all PAIRS that were given; NONE if there is none such" */
    private static void sumOfNothingAndOfAll() {
        TurningPlans x = new TurningPlans();
        for (int i = 0; i < 50; i++) {
            x.row(0, 99, 99, 99);
            x.row(1, 99, 0, 1);
        }
        x.ask();
        for (int column = -3; column <= 5; column++) {
            boolean isOne = column >= 0 && column <= 2;
            due("no PAIR, column " + column, x.sum(0, column), isOne ? 0 : NONE);
            due("no PAIR, column " + column, x.sum(1, column), isOne ? 0 : NONE);
        }
        x.go(100);
        for (int column = -3; column <= 5; column++) {
            boolean isOne = column >= 0 && column <= 2;
            int[] sums = {2500 * 99, 0, 2500};
            due("all PAIRS, column " + column, x.sum(0, column), isOne ? 2500 * 99 : NONE);
            due("all PAIRS, column " + column, x.sum(1, column), isOne ? sums[column] : NONE);
        }
    }

    /** Promise 19: 0 .. 9; "NONE for others" */
    private static void countsAreTen() {
        TurningPlans x = withRows(likeValues(4, 1), likeValues(4, 1));
        x.test(0, 99, 9);
        x.test(0, 1202, 1);
        x.memory(3);
        x.force(0);
        x.ask();
        x.go(8);
        // 8 ROWS, 4 * (9 + 1) for TESTS, which ROW 3 alone passes, and 3 PAIRS before it is SPILLED.
        countsAre(x, 1, 8 + 40 + 3, 3, 3, 2, 4, 4, 1, 1, 3);
        x.go(1);
        countsAre(x, 2, 8 + 40 + 3 + 2, 4, 3, 2, 4, 4, 1, 1, 3);
    }

    private static void countsAre(TurningPlans x, int... counts) {
        for (int what = -3; what <= 13; what++) {
            due("count(" + what + ")", x.count(what), what >= 0 && what <= 9 ? counts[what] : NONE);
        }
    }
}
