import java.util.ArrayList;
import java.util.Collections;
import java.util.List;
import java.util.function.Consumer;

/** Each PAIR is given once, whatever turns are made at whatever step, and what was paid adds up. */
public final class TurnsTest extends Plans {
    private static final int[][] ROWS_0 = {{1, 20, 3}, {2, 70, 4}, {1, 90, 9}, {2, 80, 1}, {1, 95, 5}, {2, 60, 2},
        {3, 55, 0}, {2, 10, 0}, {1, 51, 5}};
    private static final int[][] ROWS_1 = {{2, 30, 0}, {1, 40, 0}, {3, 50, 0}, {1, 99, 0}, {2, 41, 7}};
    private static final int KEY = 0;
    private static final int AMOUNT = 1;
    private static final int PRICE_OF_AMOUNT = 5;
    private static final int PRICE_OF_DAY = 1;
    private static final int PRICE_OF_AGE = 3;
    private static final int LATE_COST = 2;
    private static final int MOST_STEPS = ROWS_0.length + ROWS_1.length + ROWS_0.length * ROWS_1.length;

    private static final Checks CHECKS = new Checks("TurnsTest");

    private record Turn(String name, Consumer<TurningPlans> made) {
    }

    public static void main(String[] args) {
        String all = allPairs();
        CHECKS.due("pairs that a run can miss", all.split(" ").length >= 8, true);
        List<Turn> turns = turns();
        for (int step = 0; step <= ROWS_0.length + ROWS_1.length; step++) {
            for (Turn first : turns) {
                for (int between = 0; between <= 4; between += 2) {
                    for (Turn second : turns) {
                        run(all, step, first, between, second);
                    }
                }
            }
        }
        CHECKS.end();
    }

    private static List<Turn> turns() {
        List<Turn> turns = new ArrayList<>();
        for (int rows : new int[] {0, 1, 2, 3, 5, 100}) {
            turns.add(new Turn("memory(" + rows + ")", x -> x.memory(rows)));
        }
        for (int table = NONE; table <= 1; table++) {
            int forced = table;
            turns.add(new Turn("force(" + forced + ")", x -> x.force(forced)));
        }
        for (int digits : new int[] {NONE, 10, 1}) {
            turns.add(new Turn("order(0, " + digits + ")", x -> x.order(0, digits)));
        }
        turns.add(new Turn("stop() and ask()", x -> {
            x.stop();
            x.ask();
        }));
        return turns;
    }

    private static void run(String all, int step, Turn first, int between, Turn second) {
        String name = step + " steps, " + first.name + ", " + between + " steps, " + second.name;
        TurningPlans x = filled();
        x.ask();
        x.go(step);
        first.made.accept(x);
        x.go(between);
        second.made.accept(x);
        goToTheEnd(x);
        CHECKS.due(name + ": over", x.count(0), 2);
        CHECKS.due(name + ": pairs", sorted(pairsOf(x)), all);
        CHECKS.due(name + ": plain", x.plain(), x.count(2));
        CHECKS.due(name + ": rows read", readOf(x), ROWS_0.length + " " + ROWS_1.length);
        CHECKS.due(name + ": rows that passed", x.count(3) + x.count(4), passedOf(x));
        CHECKS.due(name + ": cost of table 0", x.cost(0),
                x.told(0, 0, 0) * PRICE_OF_AMOUNT + x.told(0, 1, 0) * PRICE_OF_DAY);
        CHECKS.due(name + ": cost of table 1", x.cost(1), x.told(1, 0, 0) * PRICE_OF_AGE);
        CHECKS.due(name + ": one test alone is fixed", x.cost(1), x.fixed(1));
    }

    private static TurningPlans filled() {
        TurningPlans x = new TurningPlans();
        for (int[] row : ROWS_0) {
            x.row(0, row[0], row[1], row[2]);
        }
        for (int[] row : ROWS_1) {
            x.row(1, row[0], row[1], row[2]);
        }
        x.test(0, 1250, PRICE_OF_AMOUNT);
        x.test(0, 2006, PRICE_OF_DAY);
        x.test(1, 1099, PRICE_OF_AGE);
        return x;
    }

    /** Step by step: a step that READS gives what it finds for 1 each, one at the end gives one PAIR for 2. */
    private static void goToTheEnd(TurningPlans x) {
        for (int step = 0; step < MOST_STEPS && x.count(0) == 1; step++) {
            int tests = x.cost(0) + x.cost(1);
            int cost = x.count(1);
            int pairs = x.count(2);
            int read = x.count(5) + x.count(6);
            CHECKS.due("a step", x.go(1), 1);
            int newPairs = x.count(2) - pairs;
            if (read < ROWS_0.length + ROWS_1.length) {
                CHECKS.due("cost of reading", x.count(1) - cost, 1 + x.cost(0) + x.cost(1) - tests + newPairs);
            } else {
                CHECKS.due("pairs at the end", newPairs, 1);
                CHECKS.due("cost at the end", x.count(1) - cost, LATE_COST);
            }
        }
    }

    private static int passedOf(TurningPlans x) {
        return (placesOf(x, 0) + placesOf(x, 1)).replaceAll("[^23]", "").length();
    }

    private static String allPairs() {
        StringBuilder text = new StringBuilder();
        for (int row0 = 0; row0 < ROWS_0.length; row0++) {
            for (int row1 = 0; row1 < ROWS_1.length; row1++) {
                boolean passes = ROWS_0[row0][AMOUNT] > 50 && ROWS_0[row0][2] < 6 && ROWS_1[row1][AMOUNT] < 99;
                if (passes && ROWS_0[row0][KEY] == ROWS_1[row1][KEY]) {
                    text.append(' ').append(row0).append('-').append(row1);
                }
            }
        }
        return sorted(text.toString().trim());
    }

    private static String sorted(String pairs) {
        List<String> list = new ArrayList<>(List.of(pairs.split(" ")));
        Collections.sort(list);
        return String.join(" ", list);
    }

    private TurnsTest() {
    }
}
