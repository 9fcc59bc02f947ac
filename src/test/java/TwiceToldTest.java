import java.lang.reflect.Method;
import java.util.Arrays;
import java.util.HashMap;
import java.util.Map;

/**
 * Runs of calls that mostly fit, on the class and on Plain, which tells the document a second time: both must answer
 * alike. The numbers come from a counter of its own, so the runs are the same each time.
 */
public final class TwiceToldTest {
    private static final int RUNS = 1000, CALLS = 512;
    // In place of a parameter's most: one fewer than count() answers of this.
    private static final int MILLS = -1, HOMES = -2, THINGS = -5, WEEK = -7;
    // Of each call: its weight, then least and most of each parameter.
    private static final Object[][] CALLS_TOLD = {
        {"sheet", 2, 0, 7, 0, 2, 0, 80}, {"set", 8, 0, 7, 0, 30, -300, 300},
        {"copy", 6, 0, 7, 0, 20, 0, 7, 0, 20, 0, 20}, {"drop", 1, 0, 7},
        {"stuff", 2, 0, 3, 0, 1, 1, 99}, {"stuff", 2, 0, 3, 2, 2, 0, 200}, {"stuff", 1, 0, 3, 3, 3, 100, 5000},
        {"stuff", 1, 0, 3, 4, 4, 0, 100}, {"ship", 6, 0, 99, 0, 3, 1, 500, 0, 1},
        {"mill", 2, 1, 50, 1, 15, 0, 500, 0, 600}, {"stock", 6, 0, MILLS, 0, 3, 0, 90}, {"told", 6, 0, MILLS, 0, 9},
        {"step", 2, 1, 2}, {"ran", 6, 0, MILLS, 0, WEEK}, {"price", 4, 0, 3, 0, 1}, {"feed", 1, 0, 99, 1, 8},
        {"lists", 1}, {"fault", 1}, {"holds", 8, 0, 99, 0, 13}, {"first", 6, 0, 99, 0, 4}, {"home", 1, 0, 7, 0, 20},
        {"house", 8, 0, HOMES, 0, 10}, {"paid", 2, 0, 7, 0, 20, 1, 8, 0, 8}, {"thing", 4, 0, 5, 0, 999, 0, THINGS},
        {"works", 2, 0, 7, 0, 20, 1, 10, 0, 500, 0, 2}, {"news", 4, 0, 9, 0, 99, 0, 3, 0, 30},
        {"known", 6, 0, 3, 0, 99}, {"kind", 2, 0, THINGS}, {"as", 6, 0, THINGS, 0, 5}, {"ask", 6, 0, THINGS, 0, 1},
        {"trace", 6, 0, 6}, {"count", 4, 0, 9}, {"status", 4}};
    private static final int[] EDGES = {-1, 0, 1, 2, 3, 4, 5, 6, 7, 8, 9, 10, 11, 12, 15, 16, 20, 21, 30, 31, 50, 51,
        79, 80, 81, 99, 100, 101, 500, 501, 999, 1000, 1001, 5000, 5001, 9999, 10000, 70000, CottonWeeks.NONE,
        Integer.MAX_VALUE, Integer.MIN_VALUE};

    private static final Map<String, Method> OF_CLASS = new HashMap<>();
    private static final Map<String, Method> OF_PLAIN = new HashMap<>();
    private static long seed = 20;

    private final int run;
    private final CottonWeeks x = new CottonWeeks();
    private final Plain y = new Plain();
    private final int[] weights = new int[CALLS_TOLD.length];
    private int calls;

    private TwiceToldTest(int run) {
        this.run = run;
    }

    public static void main(String[] args) throws ReflectiveOperationException {
        for (Method m : CottonWeeks.class.getDeclaredMethods()) {
            OF_CLASS.put(m.getName(), m);
            OF_PLAIN.put(m.getName(), null);
        }
        for (Method m : Plain.class.getDeclaredMethods()) {
            OF_PLAIN.put(m.getName(), m);
        }
        for (int run = 0; run < RUNS; run++) {
            new TwiceToldTest(run).goOn();
        }
        Due.end();
    }

    private static int below(int n) {
        seed = seed * 6364136223846793005L + 1442695040888963407L;
        return (int) ((seed >>> 33) % n);
    }

    private static int from(int least, int most) {
        return least + below(most - least + 1);
    }

    /** Each run leaves out some of the calls, so that others come often enough to fill their rows. */
    private void goOn() throws ReflectiveOperationException {
        for (int k = 0; k < weights.length; k++) {
            boolean leftOut = below(3) == 0 && !CALLS_TOLD[k][0].equals("count");
            weights[k] = leftOut ? 0 : (int) CALLS_TOLD[k][1];
        }
        int all = Arrays.stream(weights).sum();
        int made = from(10, 60);
        if (below(3) > 0) {
            text();
        }
        for (int late = below(8) == 0 ? 5 : 0; late > 0; late--) {
            both("step", from(17, 20));
        }
        while (calls < CALLS) {
            if (below(made) == 0) {
                makeUp();
            } else {
                callOf(below(all));
            }
        }
    }

    private void callOf(int weight) throws ReflectiveOperationException {
        int k = 0;
        for (int left = weight; left >= weights[k]; k++) {
            left -= weights[k];
        }
        Object[] told = CALLS_TOLD[k];
        long[] args = new long[told.length / 2 - 1];
        for (int a = 0; a < args.length; a++) {
            int least = (int) told[2 + 2 * a];
            int most = (int) told[3 + 2 * a];
            args[a] = from(least, most >= 0 || least < 0 ? most : Math.max(0, y.count(-most) - 1));
        }
        if (told[0].equals("thing") && (args[0] < 2 || args[0] > 3)) {
            args[2] = CottonWeeks.NONE;
        }
        if (args.length > 0 && below(12) == 0) {
            args[below(args.length)] = EDGES[below(EDGES.length)];
        }
        both((String) told[0], args);
    }

    private int both(String name, long... args) throws ReflectiveOperationException {
        calls++;
        if (calls > CALLS) {
            return 0;
        }
        Object[] given = new Object[args.length];
        for (int a = 0; a < args.length; a++) {
            if (name.equals("feed") && a == 0) {
                given[a] = args[a];
            } else {
                given[a] = (int) args[a];
            }
        }
        int got = (int) OF_CLASS.get(name).invoke(x, given);
        int want = (int) OF_PLAIN.get(name).invoke(y, given);
        Due.due("run " + run + ", call " + calls + ": " + name + Arrays.toString(given), got, want);
        return want;
    }

    /** Several calls that belong together, which chance alone would hardly bring. */
    private void makeUp() throws ReflectiveOperationException {
        switch (below(6)) {
            case 0:
                text();
                break;
            case 1:
                home();
                break;
            case 2:
                debts();
                break;
            case 3:
                works();
                break;
            case 4:
                mills();
                break;
            default:
                both("step", from(1, below(3) == 0 ? 20 : 2));
                break;
        }
    }

    private void text() throws ReflectiveOperationException {
        StringBuilder text = new StringBuilder();
        int lists = from(1, 3);
        for (int k = 0; k < lists; k++) {
            text.append("from").append(gap()).append(from(0, below(5) == 0 ? 101 : Math.min(99, y.count(7))));
            int many = from(1, 6);
            for (int r = 0; r < many; r++) {
                text.append(gap()).append(rule());
            }
            text.append(below(3) == 0 ? gap() : "").append(';');
        }
        if (below(4) == 0) {
            String signs = "0123456789;; \nfromlitbread#";
            text.setCharAt(below(text.length()), signs.charAt(below(signs.length())));
        }
        if (below(8) == 0) {
            text.setLength(below(text.length()));
        }
        if (below(8) == 0) {
            text.insert(0, " ".repeat(400 - Math.min(400, text.length()) + below(3)));
        }
        if (y.count(8) > 0 && below(4) > 0) {
            both("lists");
        }
        for (int at = 0; at < text.length(); at += 8) {
            int n = Math.min(8, text.length() - at);
            long w = below(1000);
            for (int k = 0; k < n; k++) {
                w = w << 8 | text.charAt(at + k);
            }
            both("feed", w, n);
        }
        both("lists");
        both("fault");
    }

    private static String gap() {
        String[] gaps = {" ", " ", " ", "\n", "  ", " \n ", ""};
        return gaps[below(gaps.length)];
    }

    private static String rule() {
        switch (below(5)) {
            case 0:
                return "piece" + gap() + from(0, below(9) == 0 ? 5 : 3) + " " + from(0, below(9) == 0 ? 101 : 9);
            case 1:
                return "relief" + gap() + from(0, below(9) == 0 ? 101 : 20);
            case 2:
                return "limit" + gap() + from(0, below(9) == 0 ? 11000 : 800);
            case 3:
                return "bread" + gap() + from(0, below(9) == 0 ? 101 : 30);
            default:
                return "first" + gap() + from(0, below(9) == 0 ? 5 : 3);
        }
    }

    private void lay(int sheet, int at, int... items) throws ReflectiveOperationException {
        both("sheet", sheet, from(1, 2), Math.min(80, at + items.length + below(3)));
        for (int k = 0; k < items.length; k++) {
            both("set", sheet, at + k, items[k]);
        }
    }

    /** BALES for those who run or sell, and a few WEEKS looked at one by one. */
    private void mills() throws ReflectiveOperationException {
        both("mill", from(1, 20), from(1, 15), from(0, 200), below(2) == 0 ? 0 : from(1, 400));
        both("stuff", 0, 3, from(100, 1500));
        for (int k = 0; k < 4; k++) {
            both("stuff", k, 2, from(0, 120));
            both("stock", from(0, 5), k, from(0, 60));
            both("ship", Math.min(99, y.count(7) + k), below(4), from(1, 100), below(2));
        }
        for (int k = 0; k < 3; k++) {
            both("step", 1);
            both("price", below(4), 1);
            for (int mill = 0; mill < y.count(1); mill++) {
                both("told", mill, from(4, 8));
                both("ran", mill, y.count(7) - 1);
            }
        }
    }

    private void home() throws ReflectiveOperationException {
        int sheet = below(8);
        int at = below(4);
        int heads = from(1, 12);
        int[] items = {from(0, 5), heads, from(0, heads), from(0, 300), from(0, 60), 0, 0, 0, 0};
        for (int g = 5; g < 9; g++) {
            items[g] = below(4) == 0 ? 0 : from(0, 300);
        }
        if (below(5) == 0) {
            items[below(9)] = EDGES[below(EDGES.length)];
        }
        lay(sheet, at, items);
        for (int many = from(1, 4); many > 0; many--) {
            both("home", sheet, at);
        }
        both("step", from(1, 4));
        for (int what = 3; what < 11; what++) {
            both("house", below(Math.max(1, y.count(2))), what);
        }
    }

    private void debts() throws ReflectiveOperationException {
        int n = from(1, 5);
        int most = below(2) == 0 ? 1000 : 12;
        int[] items = new int[n + n * n];
        for (int k = 0; k < items.length; k++) {
            boolean toItself = k >= n && (k - n) % (n + 1) == 0;
            items[k] = toItself || below(3) == 0 ? 0 : from(0, most);
        }
        if (below(8) == 0) {
            items[below(items.length)] = EDGES[below(EDGES.length)];
        }
        int sheet = below(8);
        int at = below(3);
        lay(sheet, at, items);
        for (int k = 0; k <= n; k++) {
            both("paid", sheet, at, n, k);
        }
    }

    private void works() throws ReflectiveOperationException {
        int n = from(1, 10);
        int most = below(2) == 0 ? 100 : 5;
        int[] items = new int[2 * n];
        for (int k = 0; k < items.length; k++) {
            items[k] = from(1 - k % 2, most);
        }
        if (below(8) == 0) {
            items[below(items.length)] = EDGES[below(EDGES.length)];
        }
        int sheet = below(8);
        int at = below(3);
        lay(sheet, at, items);
        for (int what = 0; what < 3; what++) {
            both("works", sheet, at, n, from(0, 5 * most), what);
        }
    }
}
