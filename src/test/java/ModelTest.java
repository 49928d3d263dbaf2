import java.util.Random;

/** Runs of calls, always the same ones, on a new object and on the plain model beside it. */
public final class ModelTest {
    private static final int RUNS = 3000;
    /** An object is promised for so many calls alone. */
    private static final int CALLS = 512;
    private static final int CALLS_TO_COMPARE_ALL = 200;
    private static final int PAIRS_TO_COMPARE = 38;
    private static final int NONE = TurningPlans.NONE;
    private static final int[] ODD = {Integer.MIN_VALUE, -1000, -2, -1, 0, 1, 2, 3, 4, 49, 50, 51, 99, 100, 101, 200,
        201, 2500, Integer.MAX_VALUE};

    private final Checks checks;
    private final Random random;
    private final TurningPlans plans = new TurningPlans();
    private final PlainModel model = new PlainModel();
    private final StringBuilder calls = new StringBuilder();
    private final int values;
    private final int oddness;
    private final int mostRows;

    private ModelTest(Checks checks, long seed) {
        this.checks = checks;
        random = new Random(seed);
        values = random.nextBoolean() ? 1 + random.nextInt(8) : 100;
        oddness = random.nextInt(3) == 0 ? 8 : 60;
        mostRows = random.nextInt(3) == 0 ? 50 : 1 + random.nextInt(20);
    }

    public static void main(String[] args) {
        Checks checks = new Checks("ModelTest");
        for (int seed = 0; seed < RUNS && !checks.isWrong(); seed++) {
            ModelTest run = new ModelTest(checks, seed);
            run.run();
            if (checks.isWrong()) {
                System.out.println("run " + seed + ":" + run.calls);
            }
        }
        checks.end();
    }

    private void run() {
        boolean comparesAll = random.nextBoolean();
        int most = comparesAll ? CALLS - CALLS_TO_COMPARE_ALL : CALLS;
        int made = fill();
        while (made < most && !checks.isWrong()) {
            makeCall(random.nextInt(100));
            made++;
        }
        if (comparesAll) {
            compareAll();
        }
    }

    private int fill() {
        int made = 0;
        for (int table = 0; table < 2; table++) {
            int rows = random.nextInt(mostRows + 1);
            for (int i = 0; i < rows; i++) {
                row(table);
            }
            int tests = random.nextInt(5);
            for (int i = 0; i < tests; i++) {
                test(table);
            }
            made += rows + tests;
        }
        return made;
    }

    private void makeCall(int choice) {
        if (choice < 2) {
            row(pick(2));
        } else if (choice < 3) {
            test(pick(2));
        } else if (choice < 5) {
            int c0 = pick(3);
            int c1 = pick(3);
            same("join(" + c0 + "," + c1 + ")", plans.join(c0, c1), model.join(c0, c1));
        } else if (choice < 13) {
            same("ask()", plans.ask(), model.ask());
        } else if (choice < 14) {
            same("stop()", plans.stop(), model.stop());
        } else if (choice < 34) {
            int n = pick(random.nextInt(6) == 0 ? 201 : 6);
            same("go(" + n + ")", plans.go(n), model.go(n));
        } else if (choice < 42) {
            int rows = pick(random.nextInt(3) == 0 ? 101 : 12);
            same("memory(" + rows + ")", plans.memory(rows), model.memory(rows));
        } else if (choice < 47) {
            int table = pick(4) - 1;
            int forced = table == 2 ? NONE : table;
            same("force(" + forced + ")", plans.force(forced), model.force(forced));
        } else if (choice < 56) {
            int table = pick(2);
            int digits = pickDigits();
            same("order(" + table + "," + digits + ")", plans.order(table, digits), model.order(table, digits));
        } else {
            look(choice);
        }
    }

    private void look(int choice) {
        int table = pick(2);
        if (choice < 62) {
            int k = pick(5);
            same("ordered(" + table + "," + k + ")", plans.ordered(table, k), model.ordered(table, k));
        } else if (choice < 68) {
            int test = pick(5);
            int what = pick(4);
            same("told(" + table + "," + test + "," + what + ")", plans.told(table, test, what),
                    model.told(table, test, what));
        } else if (choice < 75) {
            int i = pick(Math.max(1, model.count(2) + 1));
            same("given(" + i + "," + table + ")", plans.given(i, table), model.given(i, table));
        } else if (choice < 80) {
            int row = pick(50);
            same("where(" + table + "," + row + ")", plans.where(table, row), model.where(table, row));
        } else if (choice < 83) {
            int column = pick(4);
            same("sum(" + table + "," + column + ")", plans.sum(table, column), model.sum(table, column));
        } else if (choice < 85) {
            same("plain()", plans.plain(), model.plain());
        } else if (choice < 89) {
            same("fixed(" + table + ")", plans.fixed(table), model.fixed(table));
        } else if (choice < 92) {
            same("cost(" + table + ")", plans.cost(table), model.cost(table));
        } else {
            int what = pick(11);
            same("count(" + what + ")", plans.count(what), model.count(what));
        }
    }

    private void row(int table) {
        int c0 = pick(values);
        int c1 = pick(values);
        int c2 = pick(values);
        same("row(" + table + "," + c0 + "," + c1 + "," + c2 + ")", plans.row(table, c0, c1, c2),
                model.row(table, c0, c1, c2));
    }

    private void test(int table) {
        int what = random.nextInt(20) == 0 ? pick(3500) : pick(3) * 1000 + pick(3) * 100 + pick(values);
        int price = 1 + pick(random.nextBoolean() ? 4 : 51);
        same("test(" + table + "," + what + "," + price + ")", plans.test(table, what, price),
                model.test(table, what, price));
    }

    /** Below a bound, and seldom something odd. */
    private int pick(int bound) {
        return random.nextInt(oddness) == 0 ? ODD[random.nextInt(ODD.length)] : random.nextInt(bound);
    }

    private int pickDigits() {
        int kind = random.nextInt(4);
        if (kind == 0) {
            return NONE;
        }
        if (kind == 1) {
            return pick(4000);
        }
        int[] digits = {0, 1, 2, 3};
        int size = random.nextInt(5);
        int result = 0;
        for (int left = size; left > 0; left--) {
            int at = random.nextInt(left);
            result = result * 10 + digits[at];
            digits[at] = digits[left - 1];
        }
        return result;
    }

    private void compareAll() {
        for (int what = 0; what < 10; what++) {
            same("count(" + what + ")", plans.count(what), model.count(what));
        }
        for (int table = 0; table < 2; table++) {
            int pairs = model.count(2);
            for (int i = Math.max(0, pairs - PAIRS_TO_COMPARE); i <= pairs; i++) {
                same("given(" + i + "," + table + ")", plans.given(i, table), model.given(i, table));
            }
            for (int row = 0; row < 50; row++) {
                same("where(" + table + "," + row + ")", plans.where(table, row), model.where(table, row));
            }
            for (int k = 0; k < 4; k++) {
                same("ordered(" + table + "," + k + ")", plans.ordered(table, k), model.ordered(table, k));
            }
            same("fixed(" + table + ")", plans.fixed(table), model.fixed(table));
        }
    }

    private void same(String call, boolean got, boolean want) {
        same(call, got ? 1 : 0, want ? 1 : 0);
    }

    private void same(String call, int got, int want) {
        calls.append(' ').append(call).append('=').append(want);
        checks.due(call, got, want);
    }
}
