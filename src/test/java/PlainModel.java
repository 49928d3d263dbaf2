import java.util.ArrayList;
import java.util.Comparator;
import java.util.List;

/** The document written a second time, as plainly as the Java library allows and without regard to speed. */
final class PlainModel {
    private static final int NONE = -1;

    private record Test(int column, int kind, int bound, int price) {
        boolean passes(int[] row) {
            int value = row[column];
            return kind == 0 ? value < bound : kind == 1 ? value == bound : value > bound;
        }
    }

    private record Place(int table, int row) {
    }

    private record Pair(int row0, int row1) {
        int row(int table) {
            return table == 0 ? row0 : row1;
        }
    }

    private static final class Side {
        final List<int[]> rows = new ArrayList<>();
        final List<Test> tests = new ArrayList<>();
        List<Test> askedTests = List.of();
        List<Integer> order = List.of();
        boolean forced;
        int[] tried = new int[4];
        int[] failed = new int[4];
        int read;
        int testCost;
        int readCost;
        int pairs;

        boolean passesAll(int row) {
            return tests.stream().allMatch(test -> test.passes(rows.get(row)));
        }

        void begin() {
            askedTests = new ArrayList<>(tests);
            order = new ArrayList<>();
            for (int test = 0; test < tests.size(); test++) {
                order.add(test);
            }
            forced = false;
            tried = new int[4];
            failed = new int[4];
            read = 0;
            testCost = 0;
            readCost = 0;
            pairs = 0;
        }
    }

    private final Side[] sides = {new Side(), new Side()};
    private final int[] join = new int[2];
    private final List<Place> inMemory = new ArrayList<>();
    private final List<Place> spilled = new ArrayList<>();
    private final List<Pair> given = new ArrayList<>();
    private final List<Integer> readTables = new ArrayList<>();
    private int state;
    private int cost;
    private int turns;
    private int forced = NONE;
    private int holds = 100;

    int row(int table, int c0, int c1, int c2) {
        if (state == 1 || !isIn(table, 0, 1) || !isIn(c0, 0, 99) || !isIn(c1, 0, 99) || !isIn(c2, 0, 99)
                || sides[table].rows.size() == 50) {
            return NONE;
        }
        sides[table].rows.add(new int[] {c0, c1, c2});
        return sides[table].rows.size() - 1;
    }

    int test(int table, int what, int price) {
        if (state == 1 || !isIn(table, 0, 1) || !isIn(price, 1, 50) || sides[table].tests.size() == 4) {
            return NONE;
        }
        for (int column = 0; column < 3; column++) {
            for (int kind = 0; kind < 3; kind++) {
                int bound = what - column * 1000 - kind * 100;
                if (isIn(what, 0, 2299) && isIn(bound, 0, 99)) {
                    sides[table].tests.add(new Test(column, kind, bound, price));
                    return sides[table].tests.size() - 1;
                }
            }
        }
        return NONE;
    }

    boolean join(int c0, int c1) {
        if (state == 1 || !isIn(c0, 0, 2) || !isIn(c1, 0, 2)) {
            return false;
        }
        join[0] = c0;
        join[1] = c1;
        return true;
    }

    boolean ask() {
        if (state == 1) {
            return false;
        }
        sides[0].begin();
        sides[1].begin();
        inMemory.clear();
        spilled.clear();
        given.clear();
        readTables.clear();
        cost = 0;
        turns = 0;
        state = isDone() ? 2 : 1;
        return true;
    }

    boolean stop() {
        boolean runs = state == 1;
        state = runs ? 0 : state;
        return runs;
    }

    int go(int n) {
        if (state != 1 || !isIn(n, 0, 200)) {
            return NONE;
        }
        for (int made = 0; made < n; made++) {
            if (state == 2) {
                return made;
            }
            step();
            state = isDone() ? 2 : 1;
        }
        return n;
    }

    boolean memory(int rows) {
        if (!isIn(rows, 0, 100)) {
            return false;
        }
        holds = rows;
        spill();
        return true;
    }

    boolean force(int table) {
        if (!isIn(table, -1, 1)) {
            return false;
        }
        forced = table;
        return true;
    }

    boolean order(int table, int digits) {
        if (!isIn(table, 0, 1) || state != 1) {
            return false;
        }
        Side side = sides[table];
        if (digits == NONE) {
            side.forced = false;
            return true;
        }
        for (List<Integer> order : permutations(side.askedTests.size())) {
            int itsDigits = 0;
            for (int k = order.size() - 1; k >= 0; k--) {
                itsDigits = itsDigits * 10 + order.get(k);
            }
            if (itsDigits == digits) {
                side.order = order;
                side.forced = true;
                return true;
            }
        }
        return false;
    }

    int ordered(int table, int k) {
        return isIn(table, 0, 1) && isIn(k, 0, sides[table].order.size() - 1) ? sides[table].order.get(k) : NONE;
    }

    int told(int table, int test, int what) {
        if (!isIn(table, 0, 1) || !isIn(test, 0, sides[table].tests.size() - 1) || !isIn(what, 0, 2)) {
            return NONE;
        }
        Side side = sides[table];
        return what == 0 ? side.tried[test] : what == 1 ? side.failed[test] : side.tests.get(test).price;
    }

    int given(int i, int table) {
        return isIn(table, 0, 1) && isIn(i, 0, given.size() - 1) ? given.get(i).row(table) : NONE;
    }

    int where(int table, int row) {
        if (!isIn(table, 0, 1) || !isIn(row, 0, sides[table].rows.size() - 1)) {
            return NONE;
        }
        Place place = new Place(table, row);
        return inMemory.contains(place) ? 2 : spilled.contains(place) ? 3 : row < sides[table].read ? 1 : 0;
    }

    int sum(int table, int column) {
        if (!isIn(table, 0, 1) || !isIn(column, 0, 2)) {
            return NONE;
        }
        return given.stream().mapToInt(pair -> sides[table].rows.get(pair.row(table))[column]).sum();
    }

    int plain() {
        return allPairs().size();
    }

    int fixed(int table) {
        if (!isIn(table, 0, 1)) {
            return NONE;
        }
        Side side = sides[table];
        int least = Integer.MAX_VALUE;
        for (List<Integer> order : permutations(side.askedTests.size())) {
            int sum = 0;
            for (int row = 0; row < side.read; row++) {
                for (int test : order) {
                    sum += side.askedTests.get(test).price;
                    if (!side.askedTests.get(test).passes(side.rows.get(row))) {
                        break;
                    }
                }
            }
            least = Math.min(least, sum);
        }
        return least;
    }

    int cost(int table) {
        return isIn(table, 0, 1) ? sides[table].testCost : NONE;
    }

    int count(int what) {
        int wentOver = 0;
        for (int i = 1; i < readTables.size(); i++) {
            wentOver += readTables.get(i).equals(readTables.get(i - 1)) ? 0 : 1;
        }
        int[] counts = {state, cost, given.size(), inMemory.size(), spilled.size(), sides[0].read, sides[1].read,
            wentOver, turns, holds};
        return isIn(what, 0, 9) ? counts[what] : NONE;
    }

    private static boolean isIn(int value, int least, int most) {
        return value >= least && value <= most;
    }

    private static List<List<Integer>> permutations(int size) {
        List<List<Integer>> all = new ArrayList<>();
        all.add(List.of());
        for (int next = 0; next < size; next++) {
            List<List<Integer>> longer = new ArrayList<>();
            for (List<Integer> shorter : all) {
                for (int at = 0; at <= shorter.size(); at++) {
                    List<Integer> with = new ArrayList<>(shorter);
                    with.add(at, next);
                    longer.add(with);
                }
            }
            all = longer;
        }
        return all;
    }

    private boolean isAlike(int row0, int row1) {
        return sides[0].rows.get(row0)[join[0]] == sides[1].rows.get(row1)[join[1]];
    }

    private List<Pair> allPairs() {
        List<Pair> all = new ArrayList<>();
        for (int row0 = 0; row0 < sides[0].rows.size(); row0++) {
            for (int row1 = 0; row1 < sides[1].rows.size(); row1++) {
                if (sides[0].passesAll(row0) && sides[1].passesAll(row1) && isAlike(row0, row1)) {
                    all.add(new Pair(row0, row1));
                }
            }
        }
        return all;
    }

    private boolean isReadOut(int table) {
        return sides[table].read == sides[table].rows.size();
    }

    private List<Pair> latePairs() {
        List<Pair> left = allPairs();
        left.removeAll(given);
        return left;
    }

    private boolean isDone() {
        return isReadOut(0) && isReadOut(1) && latePairs().isEmpty();
    }

    private void step() {
        if (isReadOut(0) && isReadOut(1)) {
            given.add(latePairs().get(0));
            cost += 2;
        } else {
            read(tableToRead());
        }
    }

    private int tableToRead() {
        if (isReadOut(0) || isReadOut(1)) {
            return isReadOut(0) ? 1 : 0;
        }
        if (forced != NONE) {
            return forced;
        }
        long gain0 = (sides[0].pairs + 1L) * (sides[1].readCost + 1L);
        long gain1 = (sides[1].pairs + 1L) * (sides[0].readCost + 1L);
        return gain0 >= gain1 ? 0 : 1;
    }

    private void read(int table) {
        Side side = sides[table];
        int row = side.read++;
        readTables.add(table);
        int before = cost;
        cost++;
        if (tryTests(side, side.rows.get(row))) {
            for (Place place : inMemory) {
                Pair pair = table == 0 ? new Pair(row, place.row) : new Pair(place.row, row);
                if (place.table != table && isAlike(pair.row0, pair.row1)) {
                    given.add(pair);
                    side.pairs++;
                    cost++;
                }
            }
            inMemory.add(new Place(table, row));
            spill();
        }
        side.readCost += cost - before;
        if (side.read % 4 == 0 && !side.forced) {
            turn(side);
        }
    }

    private boolean tryTests(Side side, int[] row) {
        for (int test : side.order) {
            side.tried[test]++;
            side.testCost += side.askedTests.get(test).price;
            cost += side.askedTests.get(test).price;
            if (!side.askedTests.get(test).passes(row)) {
                side.failed[test]++;
                return false;
            }
        }
        return true;
    }

    private void turn(Side side) {
        Comparator<Integer> byPrice = (a, b) -> Long.compare(
                (long) side.askedTests.get(a).price * (side.tried[a] + 2) * (side.failed[b] + 1),
                (long) side.askedTests.get(b).price * (side.tried[b] + 2) * (side.failed[a] + 1));
        List<Integer> turned = new ArrayList<>(side.order);
        turned.sort(byPrice.thenComparing(Comparator.naturalOrder()));
        turns += turned.equals(side.order) ? 0 : 1;
        side.order = turned;
    }

    private void spill() {
        while (inMemory.size() > holds) {
            spilled.add(inMemory.remove(0));
        }
    }
}
