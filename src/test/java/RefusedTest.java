import java.util.ArrayList;
import java.util.List;
import java.util.function.Predicate;
import java.util.function.Supplier;
import java.util.function.ToIntFunction;

/**
 * "What is refused changes nothing.": each refused call is made in each state that an object can be in; after it, the
 * object tells all that its twin tells, on which the call wasn't made, and goes on as that does.
 */
public final class RefusedTest extends Plans {
    private static final Checks CHECKS = new Checks("RefusedTest");

    private record Call(String name, ToIntFunction<TurningPlans> made, int refusal) {
    }

    private final String state;
    private final Supplier<TurningPlans> maker;

    private RefusedTest(String state, Supplier<TurningPlans> maker) {
        this.state = state;
        this.maker = maker;
    }

    public static void main(String[] args) {
        List<Call> always = alwaysRefused();
        List<Call> running = refusedWhileOneRuns();
        List<Call> resting = refusedWhileNoneRuns();
        List<Call> wrongOrders = wrongOrdersOfThreeTestsAndOne();

        new RefusedTest("new", TurningPlans::new).refuse(always, resting);
        new RefusedTest("filled", RefusedTest::filled).refuse(always, resting);
        new RefusedTest("asked", RefusedTest::asked).refuse(always, running, wrongOrders);
        new RefusedTest("all is FORCED", RefusedTest::forced).refuse(always, running, wrongOrders);
        new RefusedTest("after a POINT", RefusedTest::afterPoint).refuse(always, running, wrongOrders);
        new RefusedTest("among late PAIRS", RefusedTest::amongLatePairs).refuse(always, running, wrongOrders);
        new RefusedTest("OVER", RefusedTest::over).refuse(always, resting);
        new RefusedTest("given up", RefusedTest::givenUp).refuse(always, resting);
        new RefusedTest("given up late", RefusedTest::givenUpLate).refuse(always, resting);
        new RefusedTest("OVER at once", RefusedTest::overAtOnce).refuse(always, resting);
        new RefusedTest("full", RefusedTest::full).refuse(always, resting, refusedByFullTables());
        new RefusedTest("full, asked", RefusedTest::fullAndAsked).refuse(always, running, refusedByFullTables());
        new RefusedTest("no TESTS", RefusedTest::askedWithoutTests).refuse(always, running, wrongOrdersOfNoTests());
        CHECKS.end();
    }

    @SafeVarargs
    private void refuse(List<Call>... lists) {
        for (List<Call> list : lists) {
            for (Call call : list) {
                refuse(call);
            }
        }
    }

    /** New objects for each question, as an object is promised for 512 calls alone. */
    private void refuse(Call call) {
        String name = state + ", " + call.name;
        toldAfter(name, call);
        stepsAfter(name, call);
        endAfter(name, call);
        nextAskAfter(name, call);
    }

    private TurningPlans refusing(String name, Call call) {
        TurningPlans x = maker.get();
        CHECKS.due(name, call.made.applyAsInt(x), call.refusal);
        return x;
    }

    private void toldAfter(String name, Call call) {
        CHECKS.due(name + ": all that is told", allOf(refusing(name, call)), allOf(maker.get()));
    }

    private void stepsAfter(String name, Call call) {
        TurningPlans x = refusing(name, call);
        TurningPlans twin = maker.get();
        int made = 1;
        for (int step = 0; made == 1; step++) {
            made = twin.go(1);
            CHECKS.due(name + ": step " + step, x.go(1), made);
            CHECKS.due(name + ": cost at step " + step, x.count(1), twin.count(1));
            CHECKS.due(name + ": READ at step " + step, x.count(5), twin.count(5));
        }
    }

    private void endAfter(String name, Call call) {
        TurningPlans x = refusing(name, call);
        TurningPlans twin = maker.get();
        CHECKS.due(name + ": all steps", x.go(200), twin.go(200));
        CHECKS.due(name + ": all that is told at the end", allOf(x), allOf(twin));
    }

    private void nextAskAfter(String name, Call call) {
        TurningPlans x = refusing(name, call);
        TurningPlans twin = maker.get();
        CHECKS.due(name + ": stop later", x.stop(), twin.stop());
        for (int table = 0; table < 2; table++) {
            CHECKS.due(name + ": row later", x.row(table, 3, 3, 3), twin.row(table, 3, 3, 3));
            CHECKS.due(name + ": test later", x.test(table, 1090, 2), twin.test(table, 1090, 2));
        }
        CHECKS.due(name + ": ask later", x.ask(), twin.ask());
        CHECKS.due(name + ": steps of the next ASK", x.go(200), twin.go(200));
        CHECKS.due(name + ": all that is told by the next ASK", allOf(x), allOf(twin));
    }

    // The states. TABLE 0 has three TESTS, TABLE 1 has one; at the JOIN of (0, 1) some ROWS of each are alike.

    private static TurningPlans filled() {
        TurningPlans x = new TurningPlans();
        for (int i = 0; i < 9; i++) {
            x.row(0, i % 3, i, 9 - i);
            x.row(1, i, i % 4, i % 2);
        }
        x.test(0, 1208, 9);
        x.test(0, 2290, 3);
        x.test(0, 2, 2);
        x.test(1, 8, 5);
        x.join(0, 1);
        return x;
    }

    private static TurningPlans passing() {
        TurningPlans x = new TurningPlans();
        for (int i = 0; i < 7; i++) {
            x.row(0, i % 3, i, 9 - i);
            x.row(1, i, i % 4, i % 2);
        }
        x.test(0, 1090, 9);
        x.test(0, 2001, 3);
        x.test(0, 2, 2);
        x.test(1, 1203, 5);
        x.join(0, 1);
        return x;
    }

    private static TurningPlans asked() {
        TurningPlans x = filled();
        x.ask();
        return x;
    }

    private static TurningPlans forced() {
        TurningPlans x = filled();
        x.memory(3);
        x.force(1);
        x.ask();
        x.order(0, 102);
        x.go(3);
        x.order(1, 0);
        return x;
    }

    private static TurningPlans afterPoint() {
        TurningPlans x = passing();
        x.memory(2);
        x.force(0);
        x.ask();
        x.go(5);
        x.force(NONE);
        return x;
    }

    private static TurningPlans amongLatePairs() {
        TurningPlans x = withTests(withRows(values(1, 1, 2), values(2, 1, 1, 1)));
        x.memory(1);
        x.ask();
        x.go(9);
        CHECKS.due("PAIRS are left", x.count(0), 1);
        return x;
    }

    private static TurningPlans withTests(TurningPlans x) {
        x.test(0, 99, 1);
        x.test(0, 1099, 2);
        x.test(0, 2099, 3);
        x.test(1, 99, 1);
        return x;
    }

    private static TurningPlans over() {
        TurningPlans x = filled();
        x.memory(4);
        x.ask();
        x.go(200);
        CHECKS.due("it is OVER", x.count(0), 2);
        return x;
    }

    private static TurningPlans givenUp() {
        TurningPlans x = forced();
        x.go(5);
        x.stop();
        return x;
    }

    private static TurningPlans givenUpLate() {
        TurningPlans x = amongLatePairs();
        x.stop();
        return x;
    }

    private static TurningPlans overAtOnce() {
        TurningPlans x = new TurningPlans();
        x.ask();
        return x;
    }

    private static TurningPlans full() {
        TurningPlans x = new TurningPlans();
        for (int i = 0; i < 50; i++) {
            x.row(0, i, i, 99);
            x.row(1, 49 - i, 0, i);
        }
        for (int i = 0; i < 4; i++) {
            x.test(0, 1090 + i, 1 + i);
            x.test(1, 2000 + 200 + i, 50 - i);
        }
        x.memory(20);
        return x;
    }

    private static TurningPlans fullAndAsked() {
        TurningPlans x = full();
        x.ask();
        x.go(40);
        return x;
    }

    private static TurningPlans askedWithoutTests() {
        TurningPlans x = withRows(values(1, 2, 3, 1, 2), values(1, 2, 3));
        x.ask();
        x.go(2);
        return x;
    }

    // The calls.

    private static void none(List<Call> calls, String name, ToIntFunction<TurningPlans> made) {
        calls.add(new Call(name, made, NONE));
    }

    private static void no(List<Call> calls, String name, Predicate<TurningPlans> made) {
        calls.add(new Call(name, x -> made.test(x) ? 1 : 0, 0));
    }

    private static List<Call> alwaysRefused() {
        List<Call> calls = new ArrayList<>();
        addWrongRows(calls);
        addWrongTests(calls);
        for (int column : NO_COLUMNS) {
            no(calls, "join(" + column + ", 1)", x -> x.join(column, 1));
            no(calls, "join(2, " + column + ")", x -> x.join(2, column));
        }
        for (int n : values(-1, 201, MIN, MAX)) {
            none(calls, "go(" + n + ")", x -> x.go(n));
        }
        for (int rows : values(-1, 101, MIN, MAX)) {
            no(calls, "memory(" + rows + ")", x -> x.memory(rows));
        }
        for (int table : values(-2, 2, MIN, MAX)) {
            no(calls, "force(" + table + ")", x -> x.force(table));
        }
        for (int table : NO_TABLES) {
            for (int digits : values(0, 210, 12, NONE)) {
                no(calls, "order(" + table + ", " + digits + ")", x -> x.order(table, digits));
            }
        }
        addWrongQuestions(calls);
        return calls;
    }

    private static void addWrongRows(List<Call> calls) {
        for (int table : NO_TABLES) {
            none(calls, "row(" + table + ", 1, 1, 1)", x -> x.row(table, 1, 1, 1));
        }
        for (int table = 0; table < 2; table++) {
            int to = table;
            for (int value : NO_VALUES) {
                none(calls, "row(" + to + ", " + value + ", 1, 1)", x -> x.row(to, value, 1, 1));
                none(calls, "row(" + to + ", 1, " + value + ", 1)", x -> x.row(to, 1, value, 1));
                none(calls, "row(" + to + ", 1, 1, " + value + ")", x -> x.row(to, 1, 1, value));
            }
        }
    }

    private static void addWrongTests(List<Call> calls) {
        for (int table : NO_TABLES) {
            none(calls, "test(" + table + ", 0, 1)", x -> x.test(table, 0, 1));
        }
        for (int table = 0; table < 2; table++) {
            int to = table;
            for (int what : values(-1, -1000, 300, 999, 1300, 1999, 2300, 2999, 3000, 10000, MIN, MAX)) {
                none(calls, "test(" + to + ", " + what + ", 1)", x -> x.test(to, what, 1));
            }
            for (int price : values(0, -1, 51, MIN, MAX)) {
                none(calls, "test(" + to + ", 0, " + price + ")", x -> x.test(to, 0, price));
            }
        }
    }

    private static void addWrongQuestions(List<Call> calls) {
        for (int table : NO_TABLES) {
            none(calls, "ordered(" + table + ", 0)", x -> x.ordered(table, 0));
            none(calls, "told(" + table + ", 0, 2)", x -> x.told(table, 0, 2));
            none(calls, "given(0, " + table + ")", x -> x.given(0, table));
            none(calls, "where(" + table + ", 0)", x -> x.where(table, 0));
            none(calls, "sum(" + table + ", 0)", x -> x.sum(table, 0));
            none(calls, "fixed(" + table + ")", x -> x.fixed(table));
            none(calls, "cost(" + table + ")", x -> x.cost(table));
        }
        for (int table = 0; table < 2; table++) {
            int of = table;
            for (int number : values(-1, 2500, MIN, MAX)) {
                none(calls, "ordered(" + of + ", " + number + ")", x -> x.ordered(of, number));
                none(calls, "told(" + of + ", " + number + ", 0)", x -> x.told(of, number, 0));
                none(calls, "given(" + number + ", " + of + ")", x -> x.given(number, of));
                none(calls, "where(" + of + ", " + number + ")", x -> x.where(of, number));
                none(calls, "told(" + of + ", 0, " + number + ")", x -> x.told(of, 0, number));
            }
            for (int column : NO_COLUMNS) {
                none(calls, "sum(" + of + ", " + column + ")", x -> x.sum(of, column));
            }
        }
        for (int what : values(-1, 10, MIN, MAX)) {
            none(calls, "count(" + what + ")", x -> x.count(what));
        }
    }

    private static List<Call> refusedWhileOneRuns() {
        List<Call> calls = new ArrayList<>();
        for (int table = 0; table < 2; table++) {
            int to = table;
            none(calls, "row(" + to + ", 1, 1, 1)", x -> x.row(to, 1, 1, 1));
            none(calls, "test(" + to + ", 50, 1)", x -> x.test(to, 50, 1));
        }
        no(calls, "join(2, 2)", x -> x.join(2, 2));
        no(calls, "join(0, 0)", x -> x.join(0, 0));
        no(calls, "ask()", TurningPlans::ask);
        return calls;
    }

    private static List<Call> refusedWhileNoneRuns() {
        List<Call> calls = new ArrayList<>();
        no(calls, "stop()", TurningPlans::stop);
        for (int n : values(0, 1, 200)) {
            none(calls, "go(" + n + ")", x -> x.go(n));
        }
        for (int digits : values(0, 210, 12, 3210, NONE)) {
            no(calls, "order(0, " + digits + ")", x -> x.order(0, digits));
            no(calls, "order(1, " + digits + ")", x -> x.order(1, digits));
        }
        return calls;
    }

    private static List<Call> refusedByFullTables() {
        List<Call> calls = new ArrayList<>();
        for (int table = 0; table < 2; table++) {
            int to = table;
            none(calls, "row(" + to + ", 0, 99, 0)", x -> x.row(to, 0, 99, 0));
            none(calls, "test(" + to + ", 2299, 50)", x -> x.test(to, 2299, 50));
        }
        return calls;
    }

    private static List<Call> wrongOrdersOfThreeTestsAndOne() {
        List<Call> calls = new ArrayList<>();
        addWrongOrders(calls, 0, 0, 1, 2, 10, 11, 20, 100, 112, 211, 222, 3, 13, 213, 310, 321, 3210, 1210, 10210, -2,
                -12, -210, MIN, MAX);
        addWrongOrders(calls, 1, 1, 2, 9, 10, 100, 11, -2, -10, MIN, MAX);
        return calls;
    }

    private static List<Call> wrongOrdersOfNoTests() {
        List<Call> calls = new ArrayList<>();
        addWrongOrders(calls, 0, 1, 10, 210, -2, MIN, MAX);
        addWrongOrders(calls, 1, 1, 10, 210, -2, MIN, MAX);
        return calls;
    }

    private static void addWrongOrders(List<Call> calls, int table, int... wrong) {
        for (int digits : wrong) {
            no(calls, "order(" + table + ", " + digits + ")", x -> x.order(table, digits));
        }
    }
}
