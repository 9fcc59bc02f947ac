/** What the project's tests share: each answer against the one that is due. */
final class Due {
    static final int NONE = CottonWeeks.NONE, BAD = CottonWeeks.BAD, FULL = CottonWeeks.FULL;
    static final int NULL = -1000011, PLACE = -1000012, KIND = -1000013, SIZE = -1000014, STORE = -1000015;

    private static final int MOST_SHOWN = 50;

    private static int wrong;
    private static int asked;

    private Due() {
    }

    static void due(String call, long got, long want) {
        asked++;
        if (got != want) {
            wrong++;
            if (wrong <= MOST_SHOWN) {
                System.out.println(call + " answered " + got + ", due is " + want);
            }
        }
    }

    /** The same answer of several calls, in their order. */
    static void dueAll(String calls, long want, int... got) {
        for (int k = 0; k < got.length; k++) {
            due(calls + " [" + k + "]", got[k], want);
        }
    }

    static void dueRow(String calls, int[] got, int... want) {
        due(calls + ": how many", got.length, want.length);
        for (int k = 0; k < Math.min(got.length, want.length); k++) {
            due(calls + " [" + k + "]", got[k], want[k]);
        }
    }

    static void end() {
        System.out.println(asked + " answers, " + wrong + " of them not as due");
        if (wrong != 0) {
            System.exit(1);
        }
    }

    /** Lays a SHEET of ints with these ITEMS. */
    static void lay(CottonWeeks x, int sheet, int... items) {
        due("sheet", x.sheet(sheet, 2, items.length), items.length);
        for (int k = 0; k < items.length; k++) {
            due("set", x.set(sheet, k, items[k]), items[k]);
        }
    }

    /** Puts a text on the tape, eight bytes a call. */
    static void put(CottonWeeks x, String text) {
        for (int at = 0; at < text.length(); at += 8) {
            int n = Math.min(8, text.length() - at);
            long w = 0;
            for (int k = 0; k < n; k++) {
                w = w << 8 | text.charAt(at + k);
            }
            x.feed(w, n);
        }
    }

    static int read(CottonWeeks x, String text) {
        put(x, text);
        return x.lists();
    }

    static void fault(CottonWeeks x, String text, int place, int number) {
        int rules = x.count(4);
        due("lists() of \"" + text + "\"", read(x, text), -1000100 - place);
        due("fault() of \"" + text + "\"", x.fault(), number);
        due("rules after \"" + text + "\"", x.count(4), rules);
        due("bytes after \"" + text + "\"", x.count(8), 0);
    }
}
