/** Promises 22 to 30: THINGS, WORKS, NEWS, KINDS, ASKS, THE TRACE and counts. */
public final class ThingsTest {
    public static void main(String[] args) {
        refusesThings();
        tellsKinds();
        takesAs();
        refusesAsks();
        asksSizes();
        asksMarks();
        keepsTheTrace();
        asksInLaterWeeks();
        refusesWorks();
        choosesWorks();
        refusesNews();
        knowsNews();
        counts();
        Due.end();
    }

    private static void refusesThings() {
        CottonWeeks x = new CottonWeeks();
        Due.dueAll("thing BAD", Due.BAD, x.thing(-1, 0, Due.NONE), x.thing(6, 0, Due.NONE), x.thing(0, -1, Due.NONE),
                x.thing(0, 1000, Due.NONE), x.thing(2, 0, Due.NONE), x.thing(3, 0, Due.NONE), x.thing(2, 0, 0),
                x.thing(1, 0, 0), x.thing(0, 0, -1));
        Due.due("good", x.thing(0, 7, Due.NONE), 0);
        Due.due("bale", x.thing(1, 999, Due.NONE), 1);
        Due.dueAll("of a wrong one", Due.BAD, x.thing(0, 0, 0), x.thing(1, 0, 1), x.thing(4, 0, 1), x.thing(5, 0, 1),
                x.thing(2, 0, 0), x.thing(2, 0, 2), x.thing(2, 0, -1), x.thing(3, 0, 1));
        Due.due("yarn", x.thing(2, 0, 1), 2);
        Due.dueAll("of a wrong one", Due.BAD, x.thing(2, 0, 2), x.thing(3, 0, 3), x.thing(3, 0, 1));
        Due.due("cloth", x.thing(3, 5, 2), 3);
        Due.dueAll("of cloth", Due.BAD, x.thing(2, 0, 3), x.thing(3, 0, 3));
        Due.due("relief", x.thing(4, 5, Due.NONE), 4);
        Due.due("loan", x.thing(5, 5, Due.NONE), 5);
        for (int t = 6; t < 16; t++) {
            Due.due("thing", x.thing(2, t, 1), t);
        }
        Due.due("thing FULL", x.thing(0, 0, Due.NONE), Due.FULL);
        Due.due("thing BAD ahead of FULL", x.thing(0, 0, 0), Due.BAD);
        Due.due("sixteen", x.count(5), 16);
        Due.due("yarns of them, and a cloth", x.count(6), 12);
        Due.due("the last", x.ask(15, 0), 15 + 100 + 999);
    }

    private static CottonWeeks oneOfEach() {
        CottonWeeks x = new CottonWeeks();
        Due.addOneOfEach(x);
        return x;
    }

    private static void tellsKinds() {
        CottonWeeks x = oneOfEach();
        Due.dueAll("kind BAD", Due.BAD, x.kind(-1), x.kind(6), x.kind(Integer.MIN_VALUE));
        for (int t = 0; t < 6; t++) {
            Due.due("kind", x.kind(t), t);
        }
    }

    private static void takesAs() {
        CottonWeeks x = oneOfEach();
        Due.dueAll("as BAD", Due.BAD, x.as(-1, 0), x.as(6, 0), x.as(0, -1), x.as(0, 6));
        int[] numbers = {11, 22, 33, 44, 55, 67};
        // By THING and KIND: which it is.
        String[] is = {"100000", "110000", "111000", "111100", "100010", "100011"};
        for (int t = 0; t < 6; t++) {
            for (int kind = 0; kind < 6; kind++) {
                boolean fits = is[t].charAt(kind) == '1';
                Due.due("as(" + t + ", " + kind + ")", x.as(t, kind), fits ? numbers[t] : Due.KIND);
                Due.due("status", x.status(), fits ? 0 : 3);
            }
        }
    }

    private static void refusesAsks() {
        CottonWeeks x = oneOfEach();
        Due.dueAll("ask BAD", Due.BAD, x.ask(-1, 0), x.ask(6, 0), x.ask(0, -1), x.ask(0, 2));
        dueTrace(x);
        x.ask(2, 1);
        x.ask(0, 2);
        dueTrace(x, 21, 20);
    }

    private static void dueTrace(CottonWeeks x, int... bodies) {
        for (int i = 0; i < bodies.length; i++) {
            Due.due("trace " + i, x.trace(i), bodies[i]);
        }
        Due.due("trace's end", x.trace(bodies.length), Due.NONE);
        Due.dueAll("no such number of the trace", Due.NONE, x.trace(-1), x.trace(16), x.trace(Integer.MAX_VALUE),
                x.trace(Integer.MIN_VALUE));
    }

    private static void asksSizes() {
        CottonWeeks x = oneOfEach();
        Due.due("good", x.ask(0, 0), 11);
        dueTrace(x, 10);
        Due.due("bale", x.ask(1, 0), 22);
        dueTrace(x, 11, 10, 20);
        Due.due("yarn", x.ask(2, 0), 33 + 100 + 22);
        dueTrace(x, 12, 11, 10, 21, 20);
        Due.due("cloth", x.ask(3, 0), 2 * (44 + 100 + 33));
        dueTrace(x, 13, 12, 11, 10, 21, 20);
        Due.due("relief", x.ask(4, 0), 55);
        dueTrace(x, 10);
        Due.due("loan", x.ask(5, 0), 33);
        dueTrace(x, 14, 10);
    }

    private static void asksMarks() {
        CottonWeeks x = oneOfEach();
        Due.due("good", x.ask(0, 1), 0);
        dueTrace(x, 20);
        Due.due("bale", x.ask(1, 1), 0);
        dueTrace(x, 20);
        Due.due("yarn", x.ask(2, 1), 100);
        dueTrace(x, 21, 20);
        Due.due("cloth", x.ask(3, 1), 100);
        dueTrace(x, 21, 20);
        Due.due("relief", x.ask(4, 1), 0);
        dueTrace(x, 22, 20);
        Due.due("loan", x.ask(5, 1), 33);
        dueTrace(x, 23, 22, 20, 14, 10);
    }

    private static void keepsTheTrace() {
        CottonWeeks x = oneOfEach();
        x.ask(3, 0);
        x.step(3);
        x.as(0, 0);
        x.kind(0);
        x.thing(0, 0, Due.NONE);
        dueTrace(x, 13, 12, 11, 10, 21, 20);
        x.ask(0, 0);
        dueTrace(x, 10);
    }

    private static void asksInLaterWeeks() {
        CottonWeeks x = oneOfEach();
        Due.read(x, "from 3 relief 17;from 99 relief 19;");
        x.step(2);
        Due.due("relief of week 2", x.ask(4, 1), 2);
        x.step(1);
        Due.dueRow("week 3, size", new int[] {x.ask(0, 0), x.ask(1, 0), x.ask(2, 0), x.ask(3, 0), x.ask(4, 0),
                x.ask(5, 0)}, 11, 25, 158, 360, 55, 33);
        Due.dueRow("week 3, mark", new int[] {x.ask(0, 1), x.ask(1, 1), x.ask(2, 1), x.ask(3, 1), x.ask(4, 1),
                x.ask(5, 1)}, 3, 3, 103, 103, 20, 53);
        for (int k = 0; k < 5; k++) {
            x.step(20);
        }
        Due.due("week 100", x.ask(4, 1), 119);
    }

    private static void refusesWorks() {
        CottonWeeks x = new CottonWeeks();
        Due.dueAll("works BAD", Due.BAD, x.works(-1, 0, 1, 0, 0), x.works(8, 0, 1, 0, 0), x.works(0, 0, 0, 0, 0),
                x.works(0, 0, 11, 0, 0), x.works(0, 0, 1, -1, 0), x.works(0, 0, 1, 501, 0), x.works(0, 0, 1, 0, -1),
                x.works(0, 0, 1, 0, 3));
        Due.due("works NULL", x.works(0, -1, 1, 0, 0), Due.NULL);
        Due.lay(x, 0, 1, 0, 100, 100, 7);
        Due.dueAll("works PLACE", Due.PLACE, x.works(0, -1, 1, 0, 0), x.works(0, 0, 3, 0, 0), x.works(0, 4, 1, 0, 0),
                x.works(0, Integer.MAX_VALUE, 10, 0, 0));
        Due.due("works", x.works(0, 0, 2, 500, 0), 2);
        int[] fine = {1, 100, 100, 0};
        for (int k = 0; k < 4; k++) {
            int[] low = fine.clone();
            low[k] = k % 2 == 0 ? 0 : -1;
            Due.lay(x, 0, low);
            Due.due("item " + k + " too low", x.works(0, 0, 2, 0, 0), Due.BAD);
            int[] high = fine.clone();
            high[k] = 101;
            Due.lay(x, 0, high);
            Due.due("item " + k + " too high", x.works(0, 0, 2, 0, 0), Due.BAD);
        }
    }

    private static void dueWorks(CottonWeeks x, int n, int loan, int set, int cost, int fewer) {
        int[] got = {x.works(0, 0, n, loan, 0), x.works(0, 0, n, loan, 1), x.works(0, 0, n, loan, 2)};
        Due.dueRow("works of " + n + " by " + loan, got, set, cost, fewer);
    }

    private static void choosesWorks() {
        CottonWeeks x = new CottonWeeks();
        Due.lay(x, 0, 10, 5, 10, 5, 9, 5, 1, 0);
        dueWorks(x, 4, 0, 0, 0, 0);
        dueWorks(x, 4, 8, 0, 0, 0);
        dueWorks(x, 4, 9, 4, 9, 5);
        dueWorks(x, 4, 10, 4, 9, 5);
        dueWorks(x, 2, 10, 1, 10, 5);
        dueWorks(x, 4, 19, 5, 19, 10);
        dueWorks(x, 4, 28, 5, 19, 10);
        dueWorks(x, 4, 29, 7, 29, 15);
        dueWorks(x, 4, 500, 7, 29, 15);
        dueWorks(x, 4, 0, 0, 0, 0);
        // The one with most for its pence is not in the best set.
        Due.lay(x, 0, 60, 66, 50, 50, 50, 50);
        dueWorks(x, 3, 100, 6, 100, 100);
        dueWorks(x, 3, 99, 1, 60, 66);
        Due.lay(x, 0, 50, 10, 50, 11, 50, 12, 50, 13, 50, 14, 50, 15, 50, 16, 50, 17, 50, 18, 51, 19);
        dueWorks(x, 10, 500, 1022, 451, 135);
        dueWorks(x, 10, 451, 1022, 451, 135);
        dueWorks(x, 10, 450, 511, 450, 126);
        Due.lay(x, 0, 9, 9, 50, 10, 60, 20);
        Due.due("from 2 on", x.works(0, 2, 2, 110, 0), 3);
        Due.due("from 2 on", x.works(0, 2, 2, 109, 0), 2);
    }

    private static void refusesNews() {
        CottonWeeks x = new CottonWeeks();
        Due.dueAll("news BAD", Due.BAD, x.news(-1, 0, 0, 0), x.news(10, 0, 0, 0), x.news(0, -1, 0, 0),
                x.news(0, 100, 0, 0), x.news(0, 0, -1, 0), x.news(0, 0, 4, 0), x.news(0, 0, 0, -1),
                x.news(0, 0, 0, 31));
        Due.dueAll("known BAD", Due.BAD, x.known(-1, 0), x.known(4, 0), x.known(0, -1), x.known(0, 100));
        for (int k = 1; k <= 20; k++) {
            Due.due("news", x.news(k % 2 * 9, k % 2 * 99, k % 2 * 3, k % 2 * 30), k);
        }
        Due.due("news FULL", x.news(0, 0, 0, 0), Due.FULL);
        Due.due("news BAD ahead of FULL", x.news(0, 0, 0, 31), Due.BAD);
        Due.due("known", x.known(0, 0), 1);
    }

    private static void knowsNews() {
        CottonWeeks x = new CottonWeeks();
        Due.due("news", x.news(9, 10, 3, 30), 1);
        Due.due("news", x.news(0, 39, 3, 0), 2);
        Due.due("news", x.news(0, 41, 3, 0), 3);
        Due.due("news", x.news(4, 40, 2, 1), 4);
        Due.dueRow("town 3", new int[] {x.known(3, 38), x.known(3, 39), x.known(3, 40), x.known(3, 99)},
                0, 1, 513, 513);
        Due.dueRow("town 2", new int[] {x.known(2, 40), x.known(2, 41)}, 0, 16);
        Due.dueRow("others", new int[] {x.known(0, 99), x.known(1, 99)}, 0, 0);
    }

    private static void counts() {
        CottonWeeks x = oneOfEach();
        Due.dueAll("count BAD", Due.BAD, x.count(-1), x.count(10), x.count(Integer.MAX_VALUE));
        x.sheet(7, 0, 9);
        x.sheet(0, 0, 9);
        x.set(0, 1, 1);
        x.home(0, 0);
        x.mill(1, 1, 0, 0);
        x.mill(1, 1, 0, 0);
        x.mill(1, 1, 0, 0);
        x.stock(2, 3, 9999);
        x.stuff(1, 2, 5);
        x.ship(99, 0, 1, 0);
        x.ship(99, 0, 1, 1);
        x.ship(0, 0, 1, 0);
        x.ship(50, 0, 1, 0);
        Due.read(x, "from 1 bread 1 bread 2 bread 3 bread 4 bread 5;");
        Due.put(x, "from 1 ");
        x.step(8);
        int[] got = new int[10];
        for (int what = 0; what < 10; what++) {
            got[what] = x.count(what);
        }
        Due.dueRow("count", got, 2, 3, 1, 4, 5, 6, 2, 8, 7, 10004);
    }
}
