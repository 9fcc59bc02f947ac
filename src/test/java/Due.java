import java.util.function.IntUnaryOperator;

/** What the project's tests share: each answer against the one that is due. */
final class Due {
    static final int NONE = CottonWeeks.NONE, BAD = CottonWeeks.BAD, FULL = CottonWeeks.FULL;
    static final int NULL = -1000011, PLACE = -1000012, KIND = -1000013, SIZE = -1000014, STORE = -1000015;

    private static final int MOST_SHOWN = 50;

    private static int wrong;
    private static int asked;
    private static String sentence = "";

    private Due() {
    }

    static void due(String call, long got, long want) {
        asked++;
        if (got != want) {
            wrong++;
            if (wrong <= MOST_SHOWN) {
                System.out.println(sentence + call + " answered " + got + ", due is " + want);
            }
        }
    }

    /** The document's sentence that the answers from here on are about. */
    static void sentence(String words) {
        sentence = "'" + words + "': ";
    }

    /** A number that a call takes from least to most: what it answers to these two, and BAD on either side of them. */
    static void range(String call, int least, int atLeast, int most, int atMost, IntUnaryOperator answers) {
        due(call + " of " + least, answers.applyAsInt(least), atLeast);
        due(call + " of " + most, answers.applyAsInt(most), atMost);
        int[] outside = {least - 1, most + 1, Integer.MIN_VALUE, Integer.MAX_VALUE};
        for (int v : outside) {
            due(call + " of " + v, answers.applyAsInt(v), BAD);
        }
    }

    /** The same answer of several calls, in their order. */
    static void dueAll(String calls, long want, int... got) {
        for (int k = 0; k < got.length; k++) {
            due(calls + " [" + k + "]", got[k], want);
        }
    }

    static void dueRow(String calls, int[] got, int... want) {
        due(calls + ": how many", got.length, want.length);
        for (int k = 0; k < Math.min(got.length, want.length); k++) {
            due(calls + " [" + k + "]", got[k], want[k]);
        }
    }

    static void end() {
        System.out.println(asked + " answers, " + wrong + " of them not as due");
        if (wrong != 0) {
            System.exit(1);
        }
    }

    /** Lays a SHEET of ints with these ITEMS. */
    static void lay(CottonWeeks x, int sheet, int... items) {
        due("sheet", x.sheet(sheet, 2, items.length), items.length);
        for (int k = 0; k < items.length; k++) {
            due("set", x.set(sheet, k, items[k]), items[k]);
        }
    }

    /** Tells a HOME of these ITEMS by way of SHEET 7. */
    static int addHome(CottonWeeks x, int... items) {
        lay(x, 7, items);
        return x.home(7, 0);
    }

    /** All that house() tells of a HOME. */
    static int[] house(CottonWeeks x, int home) {
        int[] tells = new int[11];
        for (int what = 0; what <= 10; what++) {
            tells[what] = x.house(home, what);
        }
        return tells;
    }

    /** THING k is of SORT k; their numbers are 11, 22, 33, 44, 55, 67. */
    static void addOneOfEach(CottonWeeks x) {
        x.thing(0, 11, NONE);
        x.thing(1, 22, NONE);
        x.thing(2, 33, 1);
        x.thing(3, 44, 2);
        x.thing(4, 55, NONE);
        x.thing(5, 67, NONE);
    }

    /** Puts a text on the tape, eight bytes a call. */
    static void put(CottonWeeks x, String text) {
        for (int at = 0; at < text.length(); at += 8) {
            int n = Math.min(8, text.length() - at);
            long w = 0;
            for (int k = 0; k < n; k++) {
                w = w << 8 | text.charAt(at + k);
            }
            x.feed(w, n);
        }
    }

    static int read(CottonWeeks x, String text) {
        put(x, text);
        return x.lists();
    }

    static void fault(CottonWeeks x, String text, int place, int number) {
        int rules = x.count(4);
        due("lists() of \"" + text + "\"", read(x, text), -1000100 - place);
        due("fault() of \"" + text + "\"", x.fault(), number);
        due("rules after \"" + text + "\"", x.count(4), rules);
        due("bytes after \"" + text + "\"", x.count(8), 0);
    }
}
