/** SORTS, SHIPS, MILLS, PRICES and STEPS at their ends, promises 6 to 13: a method for each sentence that names one. */
public final class CountyEdgesTest {
    public static void main(String[] args) {
        fourSorts();
        baseRange();
        breaksRange();
        portRange();
        clothRange();
        fearRange();
        clothAndFearOfAny();
        fiveWhatsOfStuff();
        refusedStuffChangesNothing();
        shipRanges();
        thirtyShips();
        shipsOfTheFirstAndTheLastWeek();
        shipsThatDoNotComeThrough();
        shipsAboveWhatStuffTakes();
        millRanges();
        sixMills();
        takesIsASet();
        stockRange();
        ownBalesAtFirst();
        toldRange();
        coinAtFirstAndAtMost();
        stepRange();
        noStepsAtWeekHundred();
        priceRange();
        priceIsOneAtLeast();
        priceIsFiveThousandAtMost();
        priceIsCut();
        priceByOneAndItsBales();
        priceBeforeAStep();
        needOrMore();
        theLeastPriceOfSeveralTheFirst();
        marginOrMore();
        ownBalesRunOut();
        holdOrMore();
        holdNoughtNeverSells();
        sellsOnlyWhenItStands();
        ranRange();
        ranOfWeeksToCome();
        ranInEachWeek();
        Due.end();
    }

    private static CottonWeeks withMill() {
        CottonWeeks x = new CottonWeeks();
        x.mill(10, 15, 0, 0);
        return x;
    }

    private static void fourSorts() {
        Due.sentence("SORTS 0 .. 3");
        Due.range("stuff() of BASE", 0, 100, 3, 100, s -> new CottonWeeks().stuff(s, 0, 5));
        Due.range("stuff() of BREAKS", 0, 0, 3, 30, s -> new CottonWeeks().stuff(s, 1, 5));
        Due.range("stuff() of THE PORT", 0, 0, 3, 0, s -> new CottonWeeks().stuff(s, 2, 5));
        Due.range("ship()", 0, 1, 3, 1, s -> new CottonWeeks().ship(0, s, 1, 1));
        Due.range("stock()", 0, 0, 3, 0, s -> withMill().stock(0, s, 1));
        Due.range("price() just now", 0, 1, 3, 1, s -> new CottonWeeks().price(s, 0));
        Due.range("price() of the last STEP", 0, Due.NONE, 3, Due.NONE, s -> new CottonWeeks().price(s, 1));
    }

    private static void baseRange() {
        Due.sentence("a BASE (1 to 1000; 100 at first)");
        Due.range("stuff()", 1, 100, 1000, 100, v -> new CottonWeeks().stuff(1, 0, v));
        Due.dueRow("stuff() of 1, then 1000, then 1", changes(0, 1, 1000, 1), 100, 1, 1000);
    }

    private static void breaksRange() {
        Due.sentence("BREAKS (0 to 99; 10 times its number)");
        Due.range("stuff()", 0, 10, 99, 10, v -> new CottonWeeks().stuff(1, 1, v));
        Due.dueRow("stuff() of 0, then 99, then 0", changes(1, 0, 99, 0), 10, 0, 99);
        CottonWeeks x = new CottonWeeks();
        for (int sort = 0; sort < 4; sort++) {
            Due.due("BREAKS of SORT " + sort, x.stuff(sort, 1, 99), 10 * sort);
        }
    }

    private static void portRange() {
        Due.sentence("BALES in THE PORT (0 to 9999; 0)");
        Due.range("stuff()", 0, 0, 9999, 0, v -> new CottonWeeks().stuff(1, 2, v));
        Due.dueRow("stuff() of 0, then 9999, then 0", changes(2, 0, 9999, 0), 0, 0, 9999);
    }

    private static void clothRange() {
        Due.sentence("CLOTH has a price (0 to 5000; 500)");
        Due.range("stuff()", 0, 500, 5000, 500, v -> new CottonWeeks().stuff(1, 3, v));
        Due.dueRow("stuff() of 0, then 5000, then 0", changes(3, 0, 5000, 0), 500, 0, 5000);
    }

    private static void fearRange() {
        Due.sentence("FEAR is 0 to 100 (0)");
        Due.range("stuff()", 0, 0, 100, 0, v -> new CottonWeeks().stuff(1, 4, v));
        Due.dueRow("stuff() of 0, then 100, then 0", changes(4, 0, 100, 0), 0, 0, 100);
    }

    /** What stuff() of SORT 1 answers to these, one behind the other. */
    private static int[] changes(int what, int... values) {
        CottonWeeks x = new CottonWeeks();
        int[] was = new int[values.length];
        for (int k = 0; k < values.length; k++) {
            was[k] = x.stuff(1, what, values[k]);
        }
        return was;
    }

    private static void clothAndFearOfAny() {
        Due.sentence("CLOTH (3), FEAR (4) of any");
        int[] any = {-1, 0, 3, 4, Integer.MIN_VALUE, Integer.MAX_VALUE};
        CottonWeeks x = new CottonWeeks();
        for (int k = 0; k < any.length; k++) {
            Due.due("CLOTH of " + any[k], x.stuff(any[k], 3, k), k == 0 ? 500 : k - 1);
            Due.due("FEAR of " + any[k], x.stuff(any[k], 4, k), k == 0 ? 0 : k - 1);
        }
    }

    private static void fiveWhatsOfStuff() {
        Due.sentence("Of a SORT BASE (what = 0), BREAKS (1), BALES in THE PORT (2); CLOTH (3), FEAR (4)");
        Due.range("stuff()", 0, 100, 4, 0, what -> new CottonWeeks().stuff(2, what, 1));
    }

    private static void refusedStuffChangesNothing() {
        Due.sentence("What is refused, or found, changes nothing but status()");
        CottonWeeks x = new CottonWeeks();
        int[] least = {1, 0, 0, 0, 0};
        int[] most = {1000, 99, 9999, 5000, 100};
        int[] first = {100, 20, 0, 500, 0};
        for (int what = 0; what < 5; what++) {
            Due.dueAll("stuff() of " + what, Due.BAD, x.stuff(2, what, least[what] - 1),
                    x.stuff(2, what, most[what] + 1));
        }
        Due.dueAll("stuff() of no SORT", Due.BAD, x.stuff(-1, 0, 5), x.stuff(4, 1, 5), x.stuff(4, 2, 5));
        for (int what = 0; what < 5; what++) {
            Due.due("stuff() of " + what, x.stuff(2, what, 1), first[what]);
        }
    }

    private static void shipRanges() {
        Due.sentence("SHIPS: a WEEK, a SORT, BALES (1 to 500), whether it comes THROUGH (1, 0)");
        Due.range("WEEK", 0, 1, 99, 1, v -> new CottonWeeks().ship(v, 0, 1, 1));
        Due.range("SORT", 0, 1, 3, 1, v -> new CottonWeeks().ship(0, v, 1, 1));
        Due.range("BALES", 1, 1, 500, 1, v -> new CottonWeeks().ship(0, 0, v, 1));
        Due.range("THROUGH", 0, 1, 1, 1, v -> new CottonWeeks().ship(0, 0, 1, v));
        CottonWeeks x = new CottonWeeks();
        x.ship(0, 0, 1, 1);
        x.ship(0, 1, 500, 1);
        Due.dueAll("refused ones", Due.BAD, x.ship(0, 2, 501, 1), x.ship(0, 4, 5, 1), x.ship(0, 2, 5, 2));
        x.step(1);
        Due.dueRow("BALES that came", port(x), 1, 500, 0, 0);
    }

    private static int[] port(CottonWeeks x) {
        return new int[] {x.stuff(0, 2, 0), x.stuff(1, 2, 0), x.stuff(2, 2, 0), x.stuff(3, 2, 0)};
    }

    private static void thirtyShips() {
        Due.sentence("SHIPS, as they are told (30 at most)");
        CottonWeeks x = new CottonWeeks();
        for (int s = 1; s <= 30; s++) {
            Due.due("ship()", x.ship(0, s / 30, 1, 1), s);
            Due.due("count() of SHIPS", x.count(3), s);
        }
        Due.dueAll("the 31st", Due.FULL, x.ship(0, 2, 500, 1), x.ship(99, 3, 1, 0));
        Due.due("count() of SHIPS", x.count(3), 30);
        x.step(1);
        Due.dueRow("BALES that came", port(x), 29, 1, 0, 0);
        Due.due("those that came are told still", x.ship(50, 0, 1, 1), Due.FULL);
    }

    private static void shipsOfTheFirstAndTheLastWeek() {
        Due.sentence("SHIPS of w that come THROUGH bring their BALES to THE PORT");
        CottonWeeks x = new CottonWeeks();
        x.ship(0, 0, 7, 1);
        x.ship(1, 1, 8, 1);
        x.ship(98, 2, 9, 1);
        x.ship(99, 3, 10, 1);
        x.step(1);
        Due.dueRow("behind the STEP of WEEK 0", port(x), 7, 0, 0, 0);
        x.ship(0, 0, 50, 1);
        x.step(1);
        Due.dueRow("behind the STEP of WEEK 1", port(x), 0, 8, 0, 0);
        toWeek(x, 98);
        Due.dueRow("behind the STEP of WEEK 97", port(x), 0, 0, 0, 0);
        x.step(1);
        Due.dueRow("behind the STEP of WEEK 98", port(x), 0, 0, 9, 0);
        x.step(1);
        Due.dueRow("behind the STEP of WEEK 99", port(x), 0, 0, 0, 10);
        Due.due("ship() behind the last STEP", x.ship(99, 3, 10, 1), 6);
        x.step(1);
        Due.dueRow("there are no more STEPS", port(x), 0, 0, 0, 0);
    }

    private static void toWeek(CottonWeeks x, int week) {
        for (int k = 0; k < 100 && x.count(7) < week; k++) {
            x.step(Math.min(20, week - x.count(7)));
        }
    }

    private static void shipsThatDoNotComeThrough() {
        Due.sentence("whether it comes THROUGH (1, 0)");
        CottonWeeks x = new CottonWeeks();
        Due.due("ship() that does not", x.ship(0, 0, 500, 0), 1);
        Due.due("ship() that does", x.ship(0, 0, 3, 1), 2);
        x.step(2);
        Due.dueRow("BALES that came", port(x), 3, 0, 0, 0);
    }

    /** The document's 9999 is what stuff() takes; it tells of no BALES that are lost. */
    private static void shipsAboveWhatStuffTakes() {
        Due.sentence("SHIPS of w that come THROUGH bring their BALES to THE PORT (that is full)");
        CottonWeeks x = new CottonWeeks();
        x.stuff(0, 2, 9999);
        x.ship(0, 0, 1, 1);
        x.ship(1, 0, 500, 1);
        x.step(1);
        Due.due("one more", x.count(9), 10000);
        x.step(1);
        Due.due("and 500", x.stuff(0, 2, 9999), 10500);
    }

    private static void millRanges() {
        Due.sentence("NEED (1 to 50), TAKES (a set of SORTS, 1 to 15), MARGIN (0 to 1000), HOLD (0 to 5000)");
        Due.range("NEED", 1, 0, 50, 0, v -> new CottonWeeks().mill(v, 1, 0, 0));
        Due.range("TAKES", 1, 0, 15, 0, v -> new CottonWeeks().mill(1, v, 0, 0));
        Due.range("MARGIN", 0, 0, 1000, 0, v -> new CottonWeeks().mill(1, 1, v, 0));
        Due.range("HOLD", 0, 0, 5000, 0, v -> new CottonWeeks().mill(1, 1, 0, v));
        CottonWeeks x = new CottonWeeks();
        x.mill(1, 1, 0, 0);
        x.mill(50, 15, 1000, 5000);
        Due.dueAll("refused ones", Due.BAD, x.mill(51, 1, 0, 0), x.mill(1, 16, 0, 0), x.mill(1, 1, 1001, 0));
        Due.due("count() of MILLS", x.count(1), 2);
        Due.dueRow("the least", new int[] {x.told(0, 0), x.told(0, 1), x.told(0, 2), x.told(0, 3)}, 1, 1, 0, 0);
        Due.dueRow("the most", new int[] {x.told(1, 0), x.told(1, 1), x.told(1, 2), x.told(1, 3)},
                50, 15, 1000, 5000);
    }

    private static void sixMills() {
        Due.sentence("MILLS 0 .. 5 (6 at most), as they are told");
        CottonWeeks x = new CottonWeeks();
        for (int m = 0; m < 6; m++) {
            Due.due("told() of one that is not there", x.told(m, 0), Due.BAD);
            Due.due("stock() of one that is not there", x.stock(m, 0, 1), Due.BAD);
            Due.due("mill()", x.mill(m + 1, 1, 0, 0), m);
            Due.due("count() of MILLS", x.count(1), m + 1);
        }
        Due.dueAll("the seventh", Due.FULL, x.mill(50, 15, 0, 0), x.mill(1, 1, 1000, 5000));
        Due.due("count() of MILLS", x.count(1), 6);
        for (int m = 0; m < 6; m++) {
            Due.due("NEED of MILL " + m, x.told(m, 0), m + 1);
        }
        Due.due("PRICE by six NEEDS", x.price(0, 0), 5000);
        x.stuff(0, 2, 99);
        Due.due("PRICE by six NEEDS", x.price(0, 0), 84);
    }

    private static void takesIsASet() {
        Due.sentence("TAKES (a set of SORTS, 1 to 15)");
        for (int takes = 1; takes <= 15; takes++) {
            CottonWeeks x = new CottonWeeks();
            x.mill(2, takes, 0, 0);
            for (int sort = 0; sort < 4; sort++) {
                x.stuff(sort, 2, 99);
                int want = (takes >> sort & 1) == 1 ? 8 : 1;
                Due.due("PRICE of SORT " + sort + " by TAKES " + takes, x.price(sort, 0), want);
            }
            x.step(1);
            Due.due("it runs on the first of them", x.ran(0, 0), Integer.numberOfTrailingZeros(takes));
        }
    }

    private static void stockRange() {
        Due.sentence("A MILL has so many BALES of a SORT (0 to 9999)");
        Due.range("BALES", 0, 0, 9999, 0, v -> withMill().stock(0, 3, v));
        Due.range("SORT", 0, 0, 3, 0, v -> withMill().stock(0, v, 5));
        Due.range("MILL", 0, 0, 0, 0, v -> withMill().stock(v, 0, 5));
        CottonWeeks x = withMill();
        Due.dueRow("0, then 9999, then 0", new int[] {x.stock(0, 1, 0), x.stock(0, 1, 9999), x.stock(0, 1, 0)},
                0, 0, 9999);
        x.stock(0, 2, 7);
        Due.dueAll("refused ones", Due.BAD, x.stock(0, 2, -1), x.stock(0, 2, 10000));
        Due.due("it has what it had", x.told(0, 6), 7);
    }

    private static void ownBalesAtFirst() {
        Due.sentence("BALES of its own by SORTS (0 at first)");
        for (int sort = 0; sort < 4; sort++) {
            Due.due("told()", withMill().told(0, 4 + sort), 0);
            Due.due("stock()", withMill().stock(0, sort, 1), 0);
        }
    }

    private static void toldRange() {
        Due.sentence("Of a MILL: 0 NEED, .. 9 how many WEEKS it RAN. BAD");
        Due.range("what", 0, 10, 9, 0, what -> withMill().told(0, what));
        Due.range("MILL", 0, 10, 0, 10, m -> withMill().told(m, 0));
        CottonWeeks x = new CottonWeeks();
        for (int m = 0; m < 6; m++) {
            x.mill(m + 1, 1, 0, 0);
        }
        Due.range("MILL of six", 0, 1, 5, 6, m -> x.told(m, 0));
    }

    private static void coinAtFirstAndAtMost() {
        Due.sentence("COIN (0 at first; never above 2000000000)");
        Due.due("at first", withMill().told(0, 8), 0);
        // The most that the limits of the document let a MILL come to: it sells four SORTS at some 1300000 a WEEK.
        CottonWeeks x = new CottonWeeks();
        x.mill(50, 15, 1000, 1);
        for (int m = 1; m < 6; m++) {
            x.mill(50, 15, 1000, 0);
        }
        x.stuff(0, 3, 0);
        x.stuff(0, 4, 100);
        for (int sort = 0; sort < 4; sort++) {
            x.stuff(sort, 0, 1000);
        }
        for (int week = 0; week < 48; week++) {
            for (int sort = 0; sort < 4; sort++) {
                x.stock(0, sort, 1299);
                x.stuff(sort, 2, 0);
            }
            x.step(1);
            Due.due("COIN behind WEEK " + week, x.told(0, 8), (week + 1) * 4 * 1299 * 1000);
        }
    }

    private static void stepRange() {
        Due.sentence("n STEPS (1 to 20)");
        Due.range("step()", 1, 1, 20, 20, n -> new CottonWeeks().step(n));
        for (int n = 1; n <= 20; n++) {
            CottonWeeks x = new CottonWeeks();
            x.step(n);
            Due.due("THE WEEK behind step() of " + n, x.count(7), n);
        }
        CottonWeeks x = new CottonWeeks();
        x.step(0);
        x.step(21);
        Due.due("THE WEEK behind refused ones", x.count(7), 0);
    }

    private static void noStepsAtWeekHundred() {
        Due.sentence("at WEEK 100 there are no more STEPS; n STEPS, or as many as there are");
        CottonWeeks x = withMill();
        x.stock(0, 0, 9999);
        toWeek(x, 99);
        Due.due("THE WEEK", x.count(7), 99);
        Due.due("PRICE is of WEEK 98", x.ran(0, 98), 0);
        Due.due("one is left", x.step(2), 1);
        Due.due("THE WEEK", x.count(7), 100);
        int coin = x.told(0, 8);
        Due.due("COIN of 100 WEEKS", coin, 100 * 10 * 500);
        Due.dueAll("none is left", 0, x.step(1), x.step(20), x.step(2));
        Due.dueAll("BAD all the same", Due.BAD, x.step(0), x.step(21));
        Due.due("THE WEEK", x.count(7), 100);
        Due.due("COIN", x.told(0, 8), coin);
        Due.due("WEEKS it RAN", x.told(0, 9), 100);
        int[] from = {81, 80, 79};
        int[] steps = {19, 20, 20};
        for (int k = 0; k < 3; k++) {
            CottonWeeks y = new CottonWeeks();
            toWeek(y, from[k]);
            Due.due("step() of 20 from WEEK " + from[k], y.step(20), steps[k]);
        }
    }

    private static void priceRange() {
        Due.sentence("PRICE of a SORT as it would be just now (what = 0), as of the last STEP (1). BAD");
        Due.range("SORT, just now", 0, 1, 3, 1, s -> stepped().price(s, 0));
        Due.range("SORT, of the last STEP", 0, 1, 3, 1, s -> stepped().price(s, 1));
        Due.range("what", 0, 1, 1, 1, what -> stepped().price(0, what));
    }

    private static CottonWeeks stepped() {
        CottonWeeks x = new CottonWeeks();
        x.step(1);
        return x;
    }

    private static void priceIsOneAtLeast() {
        Due.sentence("PRICES: 1 at least");
        CottonWeeks x = new CottonWeeks();
        Due.due("none wants it, none fears", x.price(0, 0), 1);
        x.stuff(0, 4, 1);
        x.stuff(0, 2, 99);
        Due.due("100 by 100", x.price(0, 0), 1);
        x.stuff(0, 2, 100);
        Due.due("100 by 101", x.price(0, 0), 1);
        x.stuff(0, 2, 9999);
        Due.due("100 by 10000", x.price(0, 0), 1);
        x.stuff(0, 2, 49);
        Due.due("100 by 50", x.price(0, 0), 2);
        x.stuff(0, 2, 9999);
        x.step(1);
        Due.due("of a STEP", x.price(0, 1), 1);
    }

    private static void priceIsFiveThousandAtMost() {
        Due.sentence("PRICES: 5000 at most");
        CottonWeeks x = new CottonWeeks();
        x.stuff(0, 4, 50);
        Due.due("5000", x.price(0, 0), 5000);
        x.stuff(0, 4, 51);
        Due.due("5100", x.price(0, 0), 5000);
        x.stuff(0, 4, 49);
        Due.due("4900", x.price(0, 0), 4900);
        x.stuff(0, 0, 1000);
        x.stuff(0, 4, 100);
        for (int m = 0; m < 6; m++) {
            x.mill(50, 15, 0, 0);
        }
        Due.due("1300000", x.price(0, 0), 5000);
        x.stuff(0, 2, 259);
        Due.due("1300000 by 260", x.price(0, 0), 5000);
        x.stuff(0, 2, 260);
        Due.due("1300000 by 261", x.price(0, 0), 4980);
        x.stuff(0, 2, 0);
        x.stuff(0, 3, 0);
        x.step(1);
        Due.due("of a STEP", x.price(0, 1), 5000);
    }

    private static void priceIsCut() {
        Due.sentence("All that is divided is cut towards 0 (PRICES)");
        CottonWeeks x = new CottonWeeks();
        x.stuff(0, 4, 1);
        int[] bales = {0, 1, 2, 5, 50, 66, 98};
        int[] prices = {100, 50, 33, 16, 1, 1, 1};
        for (int k = 0; k < bales.length; k++) {
            x.stuff(0, 2, bales[k]);
            Due.due("100 by 1 and " + bales[k], x.price(0, 0), prices[k]);
        }
    }

    private static void priceByOneAndItsBales() {
        Due.sentence("by (1 and its BALES in THE PORT and in all MILLS)");
        CottonWeeks x = new CottonWeeks();
        x.stuff(0, 4, 50);
        Due.due("of none", x.price(0, 0), 5000);
        x.mill(1, 8, 0, 0);
        x.mill(1, 8, 0, 0);
        x.stock(0, 0, 1);
        Due.due("of one in the first MILL", x.price(0, 0), 2500);
        x.stock(1, 0, 1);
        Due.due("and one in the last", x.price(0, 0), 1666);
        x.stuff(0, 2, 1);
        Due.due("and one in THE PORT", x.price(0, 0), 1250);
        x.stuff(1, 2, 9);
        x.stock(1, 2, 9);
        Due.due("and not of other SORTS", x.price(0, 0), 1250);
    }

    private static void priceBeforeAStep() {
        Due.sentence("as of the last STEP (1; NONE before one)");
        CottonWeeks x = new CottonWeeks();
        x.stuff(0, 4, 3);
        for (int sort = 0; sort < 4; sort++) {
            Due.due("before one", x.price(sort, 1), Due.NONE);
        }
        x.step(21);
        Due.due("behind a refused one", x.price(0, 1), Due.NONE);
        x.step(1);
        x.stuff(0, 4, 5);
        for (int sort = 0; sort < 4; sort++) {
            Due.due("of the last STEP", x.price(sort, 1), 300);
            Due.due("just now", x.price(sort, 0), 500);
        }
        toWeek(x, 100);
        x.stuff(0, 4, 7);
        Due.due("of the last STEP there is", x.price(0, 1), 500);
        Due.due("just now", x.price(0, 0), 700);
    }

    private static int ranWith(int own, int inPort) {
        CottonWeeks x = new CottonWeeks();
        x.mill(10, 1, 0, 0);
        x.stuff(0, 3, 5000);
        x.stock(0, 0, own);
        x.stuff(0, 2, inPort);
        x.step(1);
        return x.ran(0, 0);
    }

    private static void needOrMore() {
        Due.sentence("of which its own BALES and those in THE PORT are NEED or more");
        Due.dueAll("NEED less 1", Due.NONE, ranWith(9, 0), ranWith(0, 9), ranWith(4, 5), ranWith(1, 8));
        Due.dueAll("NEED", 0, ranWith(10, 0), ranWith(0, 10), ranWith(4, 6), ranWith(1, 9), ranWith(9, 1));
        Due.dueAll("more", 0, ranWith(11, 0), ranWith(0, 11), ranWith(9, 2), ranWith(9999, 9999));
        Due.dueAll("none", Due.NONE, ranWith(0, 0));
        CottonWeeks x = new CottonWeeks();
        x.mill(10, 1, 0, 0);
        x.mill(10, 1, 0, 0);
        x.stuff(0, 3, 5000);
        x.stock(1, 0, 10);
        x.step(1);
        Due.due("those of another MILL are not", x.ran(0, 0), Due.NONE);
        Due.due("of one that has NEED", x.ran(1, 0), 0);
    }

    /** What a MILL that TAKES all runs on; the PRICES are the BASES. */
    private static int ranByBases(int... bases) {
        CottonWeeks x = new CottonWeeks();
        x.mill(10, 15, 0, 0);
        for (int sort = 0; sort < 4; sort++) {
            x.stuff(sort, 0, bases[sort]);
            x.stuff(sort, 2, 39);
        }
        x.step(1);
        return x.ran(0, 0);
    }

    private static void theLeastPriceOfSeveralTheFirst() {
        Due.sentence("of these the one of the least PRICE, of several the first");
        Due.dueAll("SORT 0", 0, ranByBases(100, 100, 100, 100), ranByBases(99, 100, 100, 100),
                ranByBases(99, 100, 99, 99), ranByBases(1, 2, 3, 4));
        Due.dueAll("SORT 1", 1, ranByBases(100, 99, 99, 99), ranByBases(100, 99, 100, 101), ranByBases(4, 1, 2, 3));
        Due.dueAll("SORT 2", 2, ranByBases(100, 100, 99, 99), ranByBases(100, 101, 99, 100), ranByBases(4, 3, 1, 2));
        Due.dueAll("SORT 3", 3, ranByBases(100, 100, 100, 99), ranByBases(4, 3, 2, 1));
        CottonWeeks x = new CottonWeeks();
        x.mill(10, 14, 0, 0);
        x.stuff(0, 2, 99);
        x.stuff(1, 0, 1);
        x.stuff(1, 2, 9);
        x.stuff(2, 2, 39);
        x.stuff(3, 2, 19);
        x.step(1);
        Due.due("not one that it does not TAKE, nor one of which there are too few", x.ran(0, 0), 2);
    }

    /** Its PRICE is 100. */
    private static int ranBy(int cloth, int margin) {
        CottonWeeks x = new CottonWeeks();
        x.mill(10, 1, margin, 0);
        x.stuff(0, 2, 39);
        x.stuff(0, 3, cloth);
        x.step(1);
        Due.due("PRICE", x.price(0, 1), 100);
        return x.ran(0, 0);
    }

    private static void marginOrMore() {
        Due.sentence("if CLOTH is MARGIN or more above that PRICE, it RUNS on it");
        Due.dueAll("MARGIN", 0, ranBy(100, 0), ranBy(101, 1), ranBy(150, 50), ranBy(1100, 1000));
        Due.dueAll("more", 0, ranBy(101, 0), ranBy(102, 1), ranBy(1101, 1000), ranBy(5000, 1000));
        Due.dueAll("less", Due.NONE, ranBy(99, 0), ranBy(100, 1), ranBy(149, 50), ranBy(1099, 1000), ranBy(0, 0));
        CottonWeeks x = new CottonWeeks();
        x.mill(10, 1, 0, 0);
        x.stuff(0, 2, 39);
        x.stuff(0, 3, 100);
        x.step(1);
        Due.due("COIN of one that pays what it gets", x.told(0, 8), 0);
        Due.due("WEEKS it RAN", x.told(0, 9), 1);
    }

    private static void ownBalesRunOut() {
        Due.sentence("it uses NEED BALES, its own first, for each of THE PORT's it pays PRICE");
        int[] own = {0, 1, 9, 10, 11};
        int[] paid = {1000, 900, 100, 0, 0};
        int[] ownLeft = {0, 0, 0, 0, 1};
        int[] portLeft = {29, 29, 29, 29, 28};
        for (int k = 0; k < own.length; k++) {
            CottonWeeks x = new CottonWeeks();
            x.mill(10, 1, 0, 0);
            x.stock(0, 0, own[k]);
            x.stuff(0, 2, 39 - own[k]);
            x.step(1);
            Due.due("of " + own[k] + " of its own", x.told(0, 4), ownLeft[k]);
            Due.due("of THE PORT's", x.stuff(0, 2, 0), portLeft[k]);
            Due.due("COIN", x.told(0, 8), 10 * 500 - paid[k]);
        }
    }

    private static int[] soldBy(int hold) {
        CottonWeeks x = new CottonWeeks();
        x.mill(10, 1, 1000, hold);
        x.stock(0, 0, 39);
        x.step(1);
        return new int[] {x.price(0, 1), x.told(0, 4), x.told(0, 8), x.stuff(0, 2, 0)};
    }

    private static void holdOrMore() {
        Due.sentence("of each SORT of which PRICE is HOLD or more it sells all BALES of its own, for PRICE each");
        Due.dueRow("PRICE is HOLD", soldBy(100), 100, 0, 3900, 39);
        Due.dueRow("PRICE is more", soldBy(99), 100, 0, 3900, 39);
        Due.dueRow("HOLD is 1", soldBy(1), 100, 0, 3900, 39);
        Due.dueRow("PRICE is less", soldBy(101), 100, 39, 0, 0);
        Due.dueRow("HOLD is 5000", soldBy(5000), 100, 39, 0, 0);
        sellsAtFiveThousand();
        CottonWeeks x = new CottonWeeks();
        x.mill(10, 1, 1000, 1);
        x.stock(0, 0, 39);
        x.stuff(0, 2, 40);
        x.step(1);
        Due.due("they come to those that are there", x.stuff(0, 2, 0), 79);
    }

    private static void sellsAtFiveThousand() {
        CottonWeeks x = new CottonWeeks();
        x.mill(50, 15, 1000, 5000);
        x.stuff(0, 4, 100);
        x.stuff(3, 0, 1000);
        x.stock(0, 3, 59);
        x.stock(0, 2, 5);
        x.step(1);
        Due.due("PRICE", x.price(3, 1), 5000);
        Due.due("PRICE is HOLD of 5000", x.told(0, 7), 0);
        Due.due("COIN", x.told(0, 8), 59 * 5000 + 5 * 5000);
        Due.due("PRICE of five", x.price(2, 1), 5000);
    }

    private static void holdNoughtNeverSells() {
        Due.sentence("HOLD (0 to 5000; 0: never sells)");
        Due.dueRow("HOLD is 0", soldBy(0), 100, 39, 0, 0);
        CottonWeeks x = new CottonWeeks();
        x.mill(50, 1, 1000, 0);
        x.stuff(0, 0, 1000);
        for (int sort = 0; sort < 4; sort++) {
            x.stock(0, sort, 1);
        }
        x.step(20);
        Due.due("it has all", x.count(9), 4);
        Due.due("of its own", x.told(0, 4) + x.told(0, 5) + x.told(0, 6) + x.told(0, 7), 4);
        Due.due("COIN", x.told(0, 8), 0);
    }

    private static void sellsOnlyWhenItStands() {
        Due.sentence("Else it STANDS: .. it sells");
        CottonWeeks x = new CottonWeeks();
        x.mill(10, 1, 400, 1);
        x.stock(0, 0, 39);
        x.stock(0, 3, 7);
        x.step(1);
        Due.due("it RAN", x.ran(0, 0), 0);
        Due.due("none is sold", x.told(0, 7), 7);
        x.stock(0, 0, 39);
        x.stuff(0, 3, 499);
        x.step(1);
        Due.due("it STOOD", x.ran(0, 1), Due.NONE);
        Due.due("all are sold", x.told(0, 4) + x.told(0, 7), 0);
        Due.due("COIN", x.told(0, 8), 5000 + 39 * 100 + 7);
    }

    private static void ranRange() {
        Due.sentence("What a MILL RAN on in a WEEK. BAD: MILL 0 to 5, WEEK");
        Due.range("MILL, none there", 0, Due.NONE, 5, Due.NONE, m -> new CottonWeeks().ran(m, 0));
        Due.range("WEEK, none there", 0, Due.NONE, 99, Due.NONE, w -> new CottonWeeks().ran(0, w));
        CottonWeeks x = withMill();
        x.stock(0, 2, 9999);
        toWeek(x, 100);
        Due.range("MILL, one there", 0, 2, 5, Due.NONE, m -> x.ran(m, 99));
        Due.range("WEEK, one there", 0, 2, 99, 2, w -> x.ran(0, w));
    }

    private static void ranOfWeeksToCome() {
        Due.sentence("NONE: it STOOD, was not there, or the WEEK is to come");
        CottonWeeks x = new CottonWeeks();
        x.step(1);
        x.mill(10, 8, 0, 0);
        x.stock(0, 3, 10);
        Due.due("was not there", x.ran(0, 0), Due.NONE);
        Due.due("is to come", x.ran(0, 1), Due.NONE);
        x.step(1);
        Due.due("was not there", x.ran(0, 0), Due.NONE);
        Due.due("it RAN", x.ran(0, 1), 3);
        Due.due("is to come", x.ran(0, 2), Due.NONE);
        x.step(1);
        Due.due("it STOOD", x.ran(0, 2), Due.NONE);
        Due.due("it RAN", x.ran(0, 1), 3);
        Due.due("is to come", x.ran(0, 99), Due.NONE);
        Due.due("never told", x.ran(1, 1), Due.NONE);
    }

    private static void ranInEachWeek() {
        Due.sentence("9 how many WEEKS it RAN");
        CottonWeeks x = withMill();
        for (int week = 0; week < 100; week++) {
            x.stock(0, week % 4, week % 3 == 0 ? 0 : 10);
            x.step(1);
        }
        int weeks = 0;
        for (int week = 0; week < 100; week++) {
            Due.due("WEEK " + week, x.ran(0, week), week % 3 == 0 ? Due.NONE : week % 4);
            weeks += week % 3 == 0 ? 0 : 1;
        }
        Due.due("WEEKS", x.told(0, 9), weeks);
    }
}
