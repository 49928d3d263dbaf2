import java.util.Arrays;

/** What tests have in common: making objects, and writing what an object tells as a text. */
abstract class Plans {
    static final int NONE = TurningPlans.NONE;
    static final int MIN = Integer.MIN_VALUE;
    static final int MAX = Integer.MAX_VALUE;
    static final int[] NO_TABLES = {-2, -1, 2, 3, MIN, MAX};
    static final int[] NO_COLUMNS = {-1, 3, MIN, MAX};
    static final int[] NO_VALUES = {-1, 100, MIN, MAX};

    /** A new object whose TABLES have a ROW for each value, with it in COLUMN 0, and its number in COLUMN 1. */
    static TurningPlans withRows(int[] values0, int[] values1) {
        TurningPlans x = new TurningPlans();
        for (int i = 0; i < values0.length; i++) {
            x.row(0, values0[i], i, 0);
        }
        for (int i = 0; i < values1.length; i++) {
            x.row(1, values1[i], i, 0);
        }
        return x;
    }

    static int[] values(int... values) {
        return values;
    }

    static int[] likeValues(int howMany, int value) {
        int[] values = new int[howMany];
        Arrays.fill(values, value);
        return values;
    }

    static String pairsOf(TurningPlans x) {
        StringBuilder text = new StringBuilder();
        int pairs = x.count(2);
        for (int i = 0; i < pairs; i++) {
            text.append(i == 0 ? "" : " ").append(x.given(i, 0)).append('-').append(x.given(i, 1));
        }
        return text.toString();
    }

    static String orderOf(TurningPlans x, int table) {
        StringBuilder text = new StringBuilder();
        int k = 0;
        for (int test = x.ordered(table, k); test != NONE; test = x.ordered(table, k)) {
            text.append(test);
            k++;
        }
        return text.toString();
    }

    static String countsOf(TurningPlans x) {
        StringBuilder text = new StringBuilder();
        for (int what = 0; what <= 9; what++) {
            text.append(what == 0 ? "" : " ").append(x.count(what));
        }
        return text.toString();
    }

    static String placesOf(TurningPlans x, int table) {
        StringBuilder text = new StringBuilder();
        int row = 0;
        for (int place = x.where(table, row); place != NONE; place = x.where(table, row)) {
            text.append(place);
            row++;
        }
        return text.toString();
    }

    /** How many ROWS of TABLE 0 and of TABLE 1 were READ. */
    static String readOf(TurningPlans x) {
        return x.count(5) + " " + x.count(6);
    }

    /** All that an object tells. */
    static String allOf(TurningPlans x) {
        StringBuilder text = new StringBuilder();
        text.append("counts ").append(countsOf(x)).append(" plain ").append(x.plain());
        text.append(" pairs ").append(pairsOf(x));
        for (int table = 0; table < 2; table++) {
            text.append("; table ").append(table).append(" places ").append(placesOf(x, table));
            text.append(" order ").append(orderOf(x, table));
            text.append(" cost ").append(x.cost(table)).append(" fixed ").append(x.fixed(table));
            for (int column = 0; column < 3; column++) {
                text.append(" sum ").append(x.sum(table, column));
            }
            for (int test = 0; x.told(table, test, 2) != NONE; test++) {
                text.append(" test ").append(x.told(table, test, 0)).append('/').append(x.told(table, test, 1));
                text.append('/').append(x.told(table, test, 2));
            }
        }
        return text.toString();
    }
}
