/** THINGS, ASKS, WORKS, NEWS and counts at their ends, promises 22 to 30: a method for each sentence that names one. */
public final class ThingEdgesTest {
    /** By THING's SORT and KIND: whether it is one. */
    private static final String[] IS = {"100000", "110000", "111000", "111100", "100010", "100011"};

    public static void main(String[] args) {
        sixSorts();
        numbersOfThings();
        sixteenThings();
        yarnOfABale();
        clothOfAYarn();
        othersOfNone();
        kindRange();
        kindsOfOneAnother();
        asRange();
        asFindsKind();
        askRange();
        refusedAskLeavesTheTrace();
        traceRange();
        traceIsEmptyAhead();
        bodiesOfSize();
        bodiesOfMark();
        markIsTheWeek();
        reliefOfTheWeek();
        loanIsCut();
        madeOfTheSame();
        worksRanges();
        worksPlaces();
        worksItems();
        worksCostNoMore();
        worksOfSeveralTheCheapest();
        worksThenTheLeastNumber();
        worksOfNone();
        worksOfTen();
        newsRanges();
        twentyNews();
        knownRange();
        knownLater();
        knownInATown();
        knownIsASet();
        countRange();
        countsOfFullRows();
        Due.end();
    }

    private static CottonWeeks oneOfEach() {
        CottonWeeks x = new CottonWeeks();
        Due.addOneOfEach(x);
        return x;
    }

    private static void sixSorts() {
        Due.sentence("BAD: SORT (0 to 5)");
        Due.range("SORT", 0, 0, 5, 0, sort -> new CottonWeeks().thing(sort, 0, Due.NONE));
        for (int sort = 0; sort < 6; sort++) {
            int of = sort == 2 ? 1 : sort == 3 ? 2 : Due.NONE;
            Due.due("thing() of SORT " + sort, oneOfEach().thing(sort, 9, of), 6);
        }
    }

    private static void numbersOfThings() {
        Due.sentence("a number (0 to 999: worth, staple, count, pence)");
        for (int sort = 0; sort < 6; sort++) {
            int one = sort;
            int of = sort == 2 ? 1 : sort == 3 ? 2 : Due.NONE;
            Due.range("number of SORT " + sort, 0, 6, 999, 6, v -> oneOfEach().thing(one, v, of));
            CottonWeeks x = oneOfEach();
            x.thing(sort, 0, of);
            x.thing(sort, 999, of);
            Due.due("the least", x.as(6, 0), 0);
            Due.due("the most", x.as(7, 0), 999);
        }
    }

    private static void sixteenThings() {
        Due.sentence("THINGS 0 .. 15 (16 at most)");
        CottonWeeks x = new CottonWeeks();
        for (int t = 0; t < 16; t++) {
            Due.due("kind() of one that is not there", x.kind(t), Due.BAD);
            Due.due("thing()", x.thing(1, 900 + t, Due.NONE), t);
            Due.due("count() of THINGS", x.count(5), t + 1);
        }
        Due.dueAll("the 17th", Due.FULL, x.thing(0, 0, Due.NONE), x.thing(2, 0, 15), x.thing(5, 999, Due.NONE));
        Due.dueAll("a BAD one", Due.BAD, x.thing(6, 0, Due.NONE), x.thing(2, 0, 16), x.thing(0, 1000, Due.NONE));
        Due.due("count() of THINGS", x.count(5), 16);
        Due.due("count() of YARNS", x.count(6), 0);
        Due.due("the last", x.as(15, 1), 915);
        Due.due("kind() of the 17th", x.kind(16), Due.BAD);
    }

    private static void yarnOfABale() {
        Due.sentence("2 yarn (of a THING 1)");
        for (int of = 0; of < 6; of++) {
            Due.due("yarn of SORT " + of, oneOfEach().thing(2, 5, of), of == 1 ? 6 : Due.BAD);
        }
        Due.dueAll("yarn of none", Due.BAD, oneOfEach().thing(2, 5, Due.NONE), oneOfEach().thing(2, 5, -1),
                oneOfEach().thing(2, 5, 6), oneOfEach().thing(2, 5, 16), oneOfEach().thing(2, 5, Integer.MAX_VALUE),
                oneOfEach().thing(2, 5, Integer.MIN_VALUE));
    }

    private static void clothOfAYarn() {
        Due.sentence("3 cloth (of a THING 2)");
        for (int of = 0; of < 6; of++) {
            Due.due("cloth of SORT " + of, oneOfEach().thing(3, 5, of), of == 2 ? 6 : Due.BAD);
        }
        Due.dueAll("cloth of none", Due.BAD, oneOfEach().thing(3, 5, Due.NONE), oneOfEach().thing(3, 5, -1),
                oneOfEach().thing(3, 5, 6), oneOfEach().thing(3, 5, 16), oneOfEach().thing(3, 5, Integer.MAX_VALUE),
                oneOfEach().thing(3, 5, Integer.MIN_VALUE));
    }

    private static void othersOfNone() {
        Due.sentence("of which it is made (a THING's number; of others NONE)");
        int[] others = {0, 1, 4, 5};
        for (int sort : others) {
            Due.due("NONE", oneOfEach().thing(sort, 5, Due.NONE), 6);
            for (int of = -1; of <= 6; of++) {
                Due.due("SORT " + sort + " of " + of, oneOfEach().thing(sort, 5, of), Due.BAD);
            }
            Due.dueAll("SORT " + sort, Due.BAD, oneOfEach().thing(sort, 5, Due.NONE - 1),
                    oneOfEach().thing(sort, 5, Due.NONE + 1));
        }
    }

    private static void kindRange() {
        Due.sentence("The KIND of a THING. BAD");
        Due.range("THING", 0, 0, 5, 5, t -> oneOfEach().kind(t));
        Due.range("THING of none", 0, Due.BAD, 15, Due.BAD, t -> new CottonWeeks().kind(t));
        for (int t = 0; t < 6; t++) {
            Due.due("kind()", oneOfEach().kind(t), t);
        }
    }

    private static void kindsOfOneAnother() {
        Due.sentence("1 BALE, a GOOD; 2 YARN, a BALE; 3 CLOTH, a YARN; 4 RELIEF, a GOOD; 5 LOAN, a RELIEF");
        int[] numbers = {11, 22, 33, 44, 55, 67};
        for (int t = 0; t < 6; t++) {
            for (int kind = 0; kind < 6; kind++) {
                CottonWeeks x = oneOfEach();
                boolean is = IS[t].charAt(kind) == '1';
                Due.due("as(" + t + ", " + kind + ")", x.as(t, kind), is ? numbers[t] : Due.KIND);
            }
        }
    }

    private static void asRange() {
        Due.sentence("A THING is taken as one of a KIND (0 .. 5). BAD");
        Due.range("THING", 0, 11, 5, 67, t -> oneOfEach().as(t, 0));
        Due.range("KIND", 0, 67, 5, 67, kind -> oneOfEach().as(5, kind));
        Due.dueAll("no KIND", Due.BAD, oneOfEach().as(0, 6), oneOfEach().as(0, -1));
        Due.due("of none", new CottonWeeks().as(0, 0), Due.BAD);
    }

    private static void asFindsKind() {
        Due.sentence("KIND: it is no such one");
        CottonWeeks x = oneOfEach();
        Due.due("as() of a bale as YARN", x.as(1, 2), Due.KIND);
        Due.due("status()", x.status(), 3);
        Due.due("a BAD one", x.as(1, 6), Due.BAD);
        Due.due("status()", x.status(), 3);
        Due.due("as() of a bale as BALE", x.as(1, 1), 22);
        Due.due("status()", x.status(), 0);
        Due.due("kind() is as it was", x.kind(1), 1);
    }

    private static void askRange() {
        Due.sentence("An ASK (0, 1) of a THING. BAD");
        Due.range("THING", 0, 11, 5, 33, t -> oneOfEach().ask(t, 0));
        Due.range("what", 0, 11, 1, 0, what -> oneOfEach().ask(0, what));
        Due.due("of none", new CottonWeeks().ask(0, 0), Due.BAD);
    }

    private static void dueTrace(CottonWeeks x, int... bodies) {
        for (int i = 0; i < 17; i++) {
            Due.due("trace(" + i + ")", x.trace(i), i < bodies.length ? bodies[i] : Due.NONE);
        }
    }

    private static void refusedAskLeavesTheTrace() {
        Due.sentence("What is refused, or found, changes nothing (THE TRACE)");
        CottonWeeks x = oneOfEach();
        x.ask(3, 0);
        Due.dueAll("ask()", Due.BAD, x.ask(6, 0), x.ask(-1, 0), x.ask(0, 2), x.ask(0, -1));
        dueTrace(x, 13, 12, 11, 10, 21, 20);
    }

    private static void traceRange() {
        Due.sentence("Number i of THE TRACE; NONE");
        dueTrace(new CottonWeeks());
        CottonWeeks x = oneOfEach();
        x.ask(0, 0);
        dueTrace(x, 10);
        Due.dueAll("no such number", Due.NONE, x.trace(-1), x.trace(1), x.trace(15), x.trace(16),
                x.trace(Integer.MIN_VALUE), x.trace(Integer.MAX_VALUE));
    }

    private static void traceIsEmptyAhead() {
        Due.sentence("THE TRACE is empty ahead of it");
        CottonWeeks x = oneOfEach();
        for (int k = 0; k < 4; k++) {
            x.ask(3, 0);
            dueTrace(x, 13, 12, 11, 10, 21, 20);
        }
        x.ask(1, 1);
        dueTrace(x, 20);
    }

    private static void bodiesOfSize() {
        Due.sentence("Of an ask the BODY told for the KIND begins, else that of the nearest KIND that it is (SIZE)");
        int[][] bodies = {{10}, {11, 10, 20}, {12, 11, 10, 21, 20}, {13, 12, 11, 10, 21, 20}, {10}, {14, 10}};
        int[] sizes = {11, 22, 33 + 100 + 22, 2 * (44 + 100 + 33), 55, 33};
        for (int t = 0; t < 6; t++) {
            CottonWeeks x = oneOfEach();
            Due.due("SIZE of SORT " + t, x.ask(t, 0), sizes[t]);
            dueTrace(x, bodies[t]);
        }
    }

    private static void bodiesOfMark() {
        Due.sentence("Of an ask the BODY told for the KIND begins, else that of the nearest KIND that it is (MARK)");
        int[][] bodies = {{20}, {20}, {21, 20}, {21, 20}, {22, 20}, {23, 22, 20, 14, 10}};
        int[] marks = {0, 0, 100, 100, 0, 33};
        for (int t = 0; t < 6; t++) {
            CottonWeeks x = oneOfEach();
            Due.due("MARK of SORT " + t, x.ask(t, 1), marks[t]);
            dueTrace(x, bodies[t]);
        }
    }

    private static CottonWeeks atWeek(int week, String list) {
        CottonWeeks x = oneOfEach();
        Due.read(x, list);
        for (int w = 0; w < week; w += 20) {
            x.step(Math.min(20, week - w));
        }
        return x;
    }

    private static void markIsTheWeek() {
        Due.sentence("20 lent to all GOODS: THE WEEK");
        int[] weeks = {0, 1, 99, 100};
        for (int week : weeks) {
            CottonWeeks x = atWeek(week, "");
            int[] marks = {x.ask(0, 1), x.ask(1, 1), x.ask(2, 1), x.ask(3, 1), x.ask(4, 1), x.ask(5, 1)};
            Due.dueRow("MARK in WEEK " + week, marks, week, week, week + 100, week + 100, week, week + 33);
            int[] sizes = {x.ask(0, 0), x.ask(1, 0), x.ask(2, 0), x.ask(3, 0), x.ask(4, 0), x.ask(5, 0)};
            Due.dueRow("SIZE in WEEK " + week, sizes, 11, 22 + week, 155 + week, 2 * (177 + week), 55, 33);
        }
    }

    private static void reliefOfTheWeek() {
        Due.sentence("22 of RELIEF: what 20 gives, and relief of THE WEEK");
        String list = "from 1 relief 5;from 99 relief 99;from 0 bread 7 limit 8;";
        int[] weeks = {0, 1, 98, 99, 100};
        int[] reliefs = {0, 5, 5, 99, 99};
        for (int k = 0; k < weeks.length; k++) {
            CottonWeeks x = atWeek(weeks[k], list);
            Due.due("MARK of relief in WEEK " + weeks[k], x.ask(4, 1), weeks[k] + reliefs[k]);
            Due.due("MARK of a loan", x.ask(5, 1), weeks[k] + reliefs[k] + 33);
            Due.due("MARK of a good", x.ask(0, 1), weeks[k]);
        }
    }

    private static void loanIsCut() {
        Due.sentence("14 of LOANS: what 10 gives, by 2 (cut towards 0)");
        int[] numbers = {0, 1, 2, 3, 998, 999};
        for (int number : numbers) {
            CottonWeeks x = new CottonWeeks();
            x.thing(5, number, Due.NONE);
            Due.due("SIZE of a loan of " + number, x.ask(0, 0), number / 2);
            Due.due("its MARK", x.ask(0, 1), number / 2);
        }
    }

    private static void madeOfTheSame() {
        Due.sentence("12 of YARNS: what 11 gives, and the number of the THING it is made of");
        CottonWeeks x = new CottonWeeks();
        x.thing(1, 999, Due.NONE);
        x.thing(1, 0, Due.NONE);
        x.thing(2, 999, 0);
        x.thing(2, 0, 1);
        x.thing(2, 7, 0);
        x.thing(3, 999, 2);
        x.thing(3, 0, 3);
        int[] sizes = {x.ask(2, 0), x.ask(3, 0), x.ask(4, 0), x.ask(5, 0), x.ask(6, 0)};
        Due.dueRow("SIZE", sizes, 999 + 100 + 999, 100, 7 + 100 + 999, 2 * (999 + 100 + 999), 2 * 100);
    }

    private static CottonWeeks costs(int... items) {
        CottonWeeks x = new CottonWeeks();
        Due.lay(x, 0, items);
        return x;
    }

    private static CottonWeeks allOnes() {
        return costs(1, 1, 1, 1, 1, 1, 1, 1, 1, 1, 1, 1, 1, 1, 1, 1, 1, 1, 1, 1);
    }

    private static void worksRanges() {
        Due.sentence("WORKS: n (1 to 10); a LOAN (0 to 500); the set (what = 0), cost (1), how many fewer (2). BAD");
        Due.range("n", 1, 1, 10, 10, n -> allOnes().works(0, 0, n, 500, 1));
        Due.range("LOAN", 0, 0, 500, 10, loan -> allOnes().works(0, 0, 10, loan, 1));
        Due.range("what", 0, 1023, 2, 10, what -> allOnes().works(0, 0, 10, 500, what));
        Due.dueAll("BAD ahead of all findings", Due.BAD, allOnes().works(1, -1, 0, 0, 0),
                allOnes().works(1, -1, 1, 501, 0), allOnes().works(1, -1, 1, 0, 3), allOnes().works(0, 99, 11, 0, 0));
    }

    private static void worksPlaces() {
        Due.sentence("two ITEMS each of a SHEET from i on; PLACE");
        for (int n = 1; n <= 10; n++) {
            CottonWeeks x = new CottonWeeks();
            x.sheet(0, 2, 2 * n - 1);
            Due.due("one too few of " + n, x.works(0, 0, n, 0, 0), Due.PLACE);
            CottonWeeks y = allOnes();
            Due.due("the last of 20", y.works(0, 20 - 2 * n, n, 500, 1), n);
            Due.dueAll("no such place", Due.PLACE, y.works(0, 21 - 2 * n, n, 0, 0), y.works(0, -1, n, 0, 0),
                    y.works(0, Integer.MAX_VALUE, n, 0, 0), y.works(0, Integer.MIN_VALUE, n, 0, 0));
            Due.due("status()", y.status(), 2);
        }
    }

    private static int worksWith(int item, int v) {
        CottonWeeks x = allOnes();
        x.set(0, item, v);
        return x.works(0, 0, 3, 0, 0);
    }

    private static void worksItems() {
        Due.sentence("cost (1 to 100) and how many fewer HUNGER (0 to 100), each; then BAD: an ITEM");
        for (int item = 0; item < 6; item++) {
            int one = item;
            Due.range("ITEM " + item, item % 2 == 0 ? 1 : 0, 0, 100, 0, v -> worksWith(one, v));
        }
        Due.dueAll("ITEMS behind them are others", 0, worksWith(6, -1), worksWith(7, 101));
        CottonWeeks x = allOnes();
        x.set(0, 0, 0);
        Due.due("ITEMS ahead of them are others", x.works(0, 1, 3, 500, 1), 3);
        x.drop(1);
        Due.due("a BAD ITEM", x.works(0, 0, 3, 500, 1), Due.BAD);
        Due.due("status() is of the call ahead", x.status(), 1);
    }

    private static void dueWorks(CottonWeeks x, int n, int loan, int... want) {
        int[] got = {x.works(0, 0, n, loan, 0), x.works(0, 0, n, loan, 1), x.works(0, 0, n, loan, 2)};
        Due.dueRow("works of " + n + " by " + loan, got, want);
    }

    private static void worksCostNoMore() {
        Due.sentence("of all sets that cost no more the one with the most fewer");
        CottonWeeks x = costs(10, 1, 20, 2, 40, 4);
        dueWorks(x, 3, 9, 0, 0, 0);
        dueWorks(x, 3, 10, 1, 10, 1);
        dueWorks(x, 3, 11, 1, 10, 1);
        dueWorks(x, 3, 29, 2, 20, 2);
        dueWorks(x, 3, 30, 3, 30, 3);
        dueWorks(x, 3, 39, 3, 30, 3);
        dueWorks(x, 3, 40, 4, 40, 4);
        dueWorks(x, 3, 69, 6, 60, 6);
        dueWorks(x, 3, 70, 7, 70, 7);
        dueWorks(x, 3, 500, 7, 70, 7);
    }

    private static void worksOfSeveralTheCheapest() {
        Due.sentence("of several the one that costs least");
        dueWorks(costs(11, 5, 10, 5), 2, 11, 2, 10, 5);
        dueWorks(costs(10, 5, 11, 5), 2, 11, 1, 10, 5);
        dueWorks(costs(20, 9, 10, 5, 9, 4), 3, 20, 6, 19, 9);
        dueWorks(costs(19, 9, 10, 5, 10, 4), 3, 20, 1, 19, 9);
        dueWorks(costs(5, 3, 1, 0, 1, 0), 3, 500, 1, 5, 3);
    }

    private static void worksThenTheLeastNumber() {
        Due.sentence("then the least number");
        dueWorks(costs(10, 5, 10, 5, 10, 5), 3, 10, 1, 10, 5);
        dueWorks(costs(10, 5, 10, 5, 10, 5), 3, 20, 3, 20, 10);
        // Set 3 and set 4 cost the same and give the same.
        dueWorks(costs(4, 4, 6, 6, 10, 10), 3, 10, 3, 10, 10);
        // Set 6 and set 1 cost the same and give the same.
        dueWorks(costs(10, 10, 4, 4, 6, 6), 3, 10, 1, 10, 10);
    }

    private static void worksOfNone() {
        Due.sentence("of all sets (that of none)");
        dueWorks(costs(1, 100), 1, 0, 0, 0, 0);
        dueWorks(costs(1, 100), 1, 1, 1, 1, 100);
        dueWorks(costs(1, 0), 1, 500, 0, 0, 0);
        dueWorks(costs(1, 0, 100, 0), 2, 500, 0, 0, 0);
        dueWorks(costs(100, 100), 1, 99, 0, 0, 0);
        dueWorks(costs(100, 100), 1, 100, 1, 100, 100);
        CottonWeeks x = costs(50, 60);
        dueWorks(x, 1, 50, 1, 50, 60);
        dueWorks(x, 1, 49, 0, 0, 0);
        dueWorks(x, 1, 50, 1, 50, 60);
        x.set(0, 0, 1);
        x.set(0, 1, 0);
        dueWorks(x, 1, 500, 0, 0, 0);
    }

    private static void worksOfTen() {
        Due.sentence("WORKS: n (1 to 10) (ten at most)");
        CottonWeeks x = new CottonWeeks();
        x.sheet(0, 0, 80);
        for (int w = 0; w < 10; w++) {
            x.set(0, 60 + 2 * w, 100);
            x.set(0, 61 + 2 * w, 100);
        }
        int[] loans = {99, 100, 499, 500};
        int[] sets = {0, 1, 15, 31};
        int[] sums = {0, 100, 400, 500};
        for (int k = 0; k < 4; k++) {
            int[] got = {x.works(0, 60, 10, loans[k], 0), x.works(0, 60, 10, loans[k], 1),
                x.works(0, 60, 10, loans[k], 2)};
            Due.dueRow("ten by " + loans[k], got, sets[k], sums[k], sums[k]);
        }
        Due.due("all ten", allOnes().works(0, 0, 10, 10, 0), 1023);
        Due.due("the last is left", allOnes().works(0, 0, 10, 9, 0), 511);
    }

    private static void newsRanges() {
        Due.sentence("NEWS: what (0 to 9) happened in a WEEK, TOWN 0 to 3, so many WEEKS later (0 to 30). BAD");
        Due.range("what", 0, 1, 9, 1, v -> new CottonWeeks().news(v, 0, 0, 0));
        Due.range("WEEK", 0, 1, 99, 1, v -> new CottonWeeks().news(0, v, 0, 0));
        Due.range("TOWN", 0, 1, 3, 1, v -> new CottonWeeks().news(0, 0, v, 0));
        Due.range("later", 0, 1, 30, 1, v -> new CottonWeeks().news(0, 0, 0, v));
        CottonWeeks x = new CottonWeeks();
        x.news(10, 0, 0, 0);
        x.news(0, 0, 0, 31);
        x.news(0, -1, 0, 0);
        Due.due("nothing is known of refused ones", x.known(0, 99), 0);
        Due.due("the first that is taken", x.news(1, 0, 0, 0), 1);
    }

    private static void twentyNews() {
        Due.sentence("NEWS, as they are told (20 at most)");
        CottonWeeks x = new CottonWeeks();
        for (int k = 1; k <= 20; k++) {
            Due.due("news()", x.news(k == 20 ? 8 : 0, 0, 0, 0), k);
        }
        Due.dueAll("the 21st", Due.FULL, x.news(9, 0, 0, 0), x.news(0, 99, 3, 30));
        Due.due("a BAD one", x.news(10, 0, 0, 0), Due.BAD);
        Due.due("the 20th is known, the 21st is not", x.known(0, 99), 1 << 8 | 1);
    }

    private static void knownRange() {
        Due.sentence("KNOWN in a TOWN in a WEEK (bits). BAD");
        Due.range("TOWN", 0, 0, 3, 0, town -> new CottonWeeks().known(town, 0));
        Due.range("WEEK", 0, 0, 99, 0, week -> new CottonWeeks().known(0, week));
    }

    private static void knownLater() {
        Due.sentence("is known in TOWN 0 to 3 so many WEEKS later (0 to 30)");
        int[] laters = {0, 1, 29, 30};
        for (int later : laters) {
            CottonWeeks x = new CottonWeeks();
            x.news(5, 40, 1, later);
            Due.dueAll("before", 0, x.known(1, 0), x.known(1, 39), x.known(1, 39 + later));
            Due.dueAll("from then on", 1 << 5, x.known(1, 40 + later), x.known(1, 41 + later), x.known(1, 99));
        }
        CottonWeeks x = new CottonWeeks();
        x.news(1, 69, 0, 30);
        x.news(2, 70, 0, 30);
        x.news(3, 99, 0, 0);
        x.news(4, 99, 0, 1);
        x.news(5, 0, 0, 0);
        Due.due("WEEK 98", x.known(0, 98), 1 << 5);
        Due.due("WEEK 99: what comes at 100 is never known", x.known(0, 99), 1 << 1 | 1 << 3 | 1 << 5);
        x.step(20);
        Due.due("whatever THE WEEK is", x.known(0, 99), 1 << 1 | 1 << 3 | 1 << 5);
        Due.due("WEEK 0", x.known(0, 0), 1 << 5);
    }

    private static void knownInATown() {
        Due.sentence("KNOWN in a TOWN");
        CottonWeeks x = new CottonWeeks();
        for (int town = 0; town < 4; town++) {
            x.news(town, 10, town, 0);
        }
        for (int town = 0; town < 4; town++) {
            Due.due("TOWN " + town, x.known(town, 10), 1 << town);
            Due.due("TOWN " + town + ", a WEEK ahead", x.known(town, 9), 0);
        }
    }

    private static void knownIsASet() {
        Due.sentence("KNOWN in a TOWN in a WEEK: the set of what is");
        CottonWeeks x = new CottonWeeks();
        for (int what = 0; what < 10; what++) {
            x.news(what, what, 2, 0);
            x.news(what, what, 2, 5);
        }
        for (int week = 0; week < 10; week++) {
            Due.due("WEEK " + week, x.known(2, week), (1 << week + 1) - 1);
        }
        Due.due("all", x.known(2, 99), 1023);
    }

    private static void countRange() {
        Due.sentence("How many: 0 SHEETS, .. 9 BALES in all MILLS and THE PORT. BAD");
        Due.range("what", 0, 0, 9, 0, what -> new CottonWeeks().count(what));
        for (int what = 0; what < 10; what++) {
            Due.due("count() " + what + " of a new one", new CottonWeeks().count(what), 0);
        }
    }

    private static void countsOfFullRows() {
        Due.sentence("How many (of full rows)");
        CottonWeeks x = new CottonWeeks();
        for (int s = 0; s < 8; s++) {
            x.sheet(s, 2, 80);
        }
        x.set(0, 1, 1);
        for (int k = 0; k < 31; k++) {
            x.mill(1, 15, 1000, 0);
            x.home(0, 0);
            x.ship(99, 0, 1, 0);
            x.thing(1 + Math.min(k, 2), k, k == 0 ? Due.NONE : Math.min(k - 1, 1));
        }
        Due.read(x, "from 1 " + "bread 1 ".repeat(30) + ";");
        for (int sort = 0; sort < 4; sort++) {
            x.stuff(sort, 2, 9999);
            for (int m = 0; m < 6; m++) {
                x.stock(m, sort, 9999);
            }
        }
        Due.put(x, " ".repeat(400));
        int[] got = new int[10];
        for (int what = 0; what < 10; what++) {
            got[what] = x.count(what);
        }
        // A bale, a yarn of it, and fourteen cloths of this.
        Due.dueRow("count()", got, 8, 6, 12, 30, 30, 16, 15, 0, 400, 4 * 7 * 9999);
    }
}
