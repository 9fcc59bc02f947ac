/** HOMES, STEP 4 and PAID at their ends, promises 19 to 21: a method for each sentence that names one. */
public final class HomeEdgesTest {
    private static final int[] LEAST = {0, 1, 0, 0, 0, 0, 0, 0, 0};
    private static final int[] MOST = {5, 12, 12, 9999, 99, 999, 999, 999, 999};

    public static void main(String[] args) {
        rangesOfItems();
        handsToHeads();
        twelveHomes();
        nineItems();
        homesOfEachLane();
        refusedHomesComeNot();
        houseRange();
        homesKeepWhatTheyWereTold();
        earnsIfItsMillRan();
        spendsToTheLastPenny();
        limitOrLess();
        limitOfWhatIsLeft();
        limitWithFirstGoods();
        limitOfNought();
        reliefByHeads();
        noReliefIfItsMillRan();
        goodsGoTillSavingsAreNought();
        goodsInOrder();
        goodsThatAreGone();
        noneIsLeft();
        hungersOnceMore();
        homesToldLater();
        paidRanges();
        paidPlaces();
        paidItems();
        paidOfOne();
        paidIsTheLeast();
        paidIsCut();
        paidFromAllInFull();
        paidRounds();
        paidByThoseWhoOweNothing();
        Due.end();
    }

    private static int homeWith(int item, int v) {
        int[] items = {3, 12, 6, 50, 5, 5, 5, 5, 5};
        items[item] = v;
        return Due.addHome(new CottonWeeks(), items);
    }

    private static void rangesOfItems() {
        Due.sentence("a MILL 0 to 5, heads (1 to 12), savings (0 to 9999), rent (0 to 99), GOODS (0 to 999 each)");
        for (int item = 0; item < 9; item++) {
            int one = item;
            int least = item == 1 ? 6 : LEAST[item];
            Due.range("ITEM " + item, least, 0, MOST[item], 0, v -> homeWith(one, v));
        }
        Due.due("1 head", Due.addHome(new CottonWeeks(), LEAST), 0);
        Due.dueAll("no head", Due.BAD, Due.addHome(new CottonWeeks(), 0, 0, 0, 0, 0, 0, 0, 0, 0),
                Due.addHome(new CottonWeeks(), 0, -1, -1, 0, 0, 0, 0, 0, 0));
        Due.due("all at most", Due.addHome(new CottonWeeks(), MOST), 0);
    }

    private static void handsToHeads() {
        Due.sentence("hands (0 to heads)");
        for (int heads = 1; heads <= 12; heads++) {
            int all = heads;
            Due.range("hands of " + heads, 0, 0, heads, 0,
                    v -> Due.addHome(new CottonWeeks(), 0, all, v, 0, 0, 0, 0, 0, 0));
        }
    }

    private static void twelveHomes() {
        Due.sentence("HOMES 0 .. 11 (12 at most)");
        CottonWeeks x = new CottonWeeks();
        for (int h = 0; h < 12; h++) {
            Due.due("house() of one that is not there", x.house(h, 0), Due.BAD);
            Due.due("home()", Due.addHome(x, 0, 1, 0, h, 0, 0, 0, 0, 0), h);
            Due.due("count() of HOMES", x.count(2), h + 1);
        }
        Due.due("the thirteenth", x.home(7, 0), Due.FULL);
        Due.due("count() of HOMES", x.count(2), 12);
        x.step(1);
        for (int h = 0; h < 12; h++) {
            Due.due("savings of " + h, x.house(h, 3), h);
        }
    }

    private static void nineItems() {
        Due.sentence("nine ITEMS of a SHEET from i on");
        CottonWeeks x = new CottonWeeks();
        x.sheet(0, 2, 8);
        Due.dueAll("of eight", Due.PLACE, x.home(0, 0), x.home(0, -1));
        Due.lay(x, 0, 4, 1, 1, 0, 0, 0, 0, 0, 9);
        Due.due("of nine", x.home(0, 0), 0);
        Due.dueAll("of nine", Due.PLACE, x.home(0, 1), x.home(0, -1), x.home(0, 9), x.home(0, Integer.MIN_VALUE),
                x.home(0, Integer.MAX_VALUE), x.home(0, Integer.MAX_VALUE - 8));
        Due.due("status()", x.status(), 2);
        Due.lay(x, 0, -1, 4, 1, 1, 0, 0, 0, 0, 0, 8, -1);
        Due.due("in the midst of eleven", x.home(0, 1), 1);
        Due.due("the last GOOD", x.house(1, 8), 8);
        x.sheet(1, 2, 80);
        x.set(1, 72, 1);
        x.set(1, 79, 7);
        Due.due("the last of 80", x.home(1, 71), 2);
        Due.due("the last GOOD", x.house(2, 8), 7);
        Due.due("beyond 80", x.home(1, 72), Due.PLACE);
    }

    private static void homesOfEachLane() {
        Due.sentence("A HOME, nine ITEMS of a SHEET (of any LANE)");
        for (int lane = 0; lane < 3; lane++) {
            CottonWeeks x = new CottonWeeks();
            x.sheet(0, lane, 9);
            x.set(0, 1, 12);
            x.set(0, 3, 127);
            Due.due("home() of LANE " + lane, x.home(0, 0), 0);
            Due.due("savings", x.house(0, 3), 127);
            int below = lane == 0 ? 128 : 32768;
            x.set(0, 3, below);
            Due.due("savings that are below 0 in their LANE", x.home(0, 0), Due.BAD);
        }
    }

    private static void refusedHomesComeNot() {
        Due.sentence("BAD: SHEET; FULL: 12; NULL; PLACE; then BAD: an ITEM (changes nothing)");
        CottonWeeks x = new CottonWeeks();
        Due.addHome(x, 1, 2, 1, 30, 4, 5, 6, 7, 8);
        x.set(7, 1, 13);
        Due.dueAll("refused ones", Due.BAD, x.home(8, 0), x.home(-1, 0), x.home(7, 0));
        Due.due("a missing SHEET", x.home(0, 0), Due.NULL);
        Due.due("no such place", x.home(7, 1), Due.PLACE);
        Due.due("status() behind a BAD ITEM", x.home(7, 0) == Due.BAD ? x.status() : -1, 2);
        Due.due("count() of HOMES", x.count(2), 1);
        Due.due("house() of the next", x.house(1, 0), Due.BAD);
        x.set(7, 1, 12);
        Due.due("the next", x.home(7, 0), 1);
        Due.due("heads of the first", x.house(0, 1), 2);
    }

    private static void houseRange() {
        Due.sentence("Of a HOME: 0 MILL, .. 10 all relief it had. BAD");
        CottonWeeks x = new CottonWeeks();
        Due.range("HOME of none", 0, Due.BAD, 11, Due.BAD, h -> x.house(h, 0));
        Due.addHome(x, 3, 2, 1, 30, 4, 5, 6, 7, 8);
        Due.range("HOME of one", 0, 3, 0, 3, h -> x.house(h, 0));
        Due.range("what", 0, 3, 10, 0, what -> x.house(0, what));
        for (int h = 1; h < 12; h++) {
            Due.addHome(x, h % 6, 2, 1, 30, 4, 5, 6, 7, 8);
        }
        Due.range("HOME of twelve", 0, 3, 11, 5, h -> x.house(h, 0));
    }

    private static void homesKeepWhatTheyWereTold() {
        Due.sentence("MILL, heads, hands, savings, rent, four GOODS");
        CottonWeeks x = new CottonWeeks();
        Due.addHome(x, LEAST);
        Due.addHome(x, MOST);
        Due.dueRow("at least", Due.house(x, 0), 0, 1, 0, 0, 0, 0, 0, 0, 0, 0, 0);
        Due.dueRow("at most", Due.house(x, 1), 5, 12, 12, 9999, 99, 999, 999, 999, 999, 0, 0);
        x.sheet(7, 2, 80);
        x.drop(7);
        Due.dueRow("its SHEET is missing then", Due.house(x, 1), 5, 12, 12, 9999, 99, 999, 999, 999, 999, 0, 0);
    }

    /** Two WEEKS: MILL 0 has BALES of SORT 2 for the first of them alone. */
    private static CottonWeeks millOfOneWeek(String list) {
        CottonWeeks x = new CottonWeeks();
        Due.read(x, list);
        x.mill(10, 4, 0, 0);
        x.stock(0, 2, 10);
        x.stuff(2, 0, 1);
        return x;
    }

    private static void earnsIfItsMillRan() {
        Due.sentence("hands times EARN, if its MILL RAN (on that SORT), come to savings");
        CottonWeeks x = millOfOneWeek("from 0 piece 2 99 piece 0 1;");
        x.stuff(2, 1, 0);
        Due.addHome(x, 0, 12, 12, 9999, 0, 0, 0, 0, 0);
        Due.addHome(x, 0, 12, 0, 9, 0, 0, 0, 0, 0);
        Due.addHome(x, 0, 12, 1, 9, 0, 0, 0, 0, 0);
        Due.addHome(x, 1, 12, 12, 9, 0, 0, 0, 0, 0);
        x.step(1);
        Due.due("it RAN", x.ran(0, 0), 2);
        Due.due("twelve hands", x.house(0, 3), 9999 + 12 * 60 * 99);
        Due.due("no hand", x.house(1, 3), 9);
        Due.due("a hand", x.house(2, 3), 9 + 60 * 99);
        Due.due("of a MILL that is not there", x.house(3, 3), 9);
        x.step(1);
        Due.due("it STOOD", x.ran(0, 1), Due.NONE);
        Due.due("a hand", x.house(2, 3), 9 + 60 * 99);
    }

    private static void spendsToTheLastPenny() {
        Due.sentence("less heads times bread, less rent");
        CottonWeeks x = new CottonWeeks();
        Due.read(x, "from 0 bread 99;");
        Due.addHome(x, 5, 12, 0, 12 * 99 + 99, 99, 0, 0, 0, 7);
        Due.addHome(x, 5, 12, 0, 12 * 99 + 98, 99, 0, 0, 0, 7);
        Due.addHome(x, 5, 1, 0, 100, 0, 0, 0, 0, 7);
        x.step(1);
        Due.dueRow("0 is left", Due.house(x, 0), 5, 12, 0, 0, 99, 0, 0, 0, 7, 0, 0);
        Due.dueRow("1 is lacking", Due.house(x, 1), 5, 12, 0, 6, 99, 0, 0, 0, 0, 0, 0);
        Due.dueRow("1 is left", Due.house(x, 2), 5, 1, 0, 1, 0, 0, 0, 0, 7, 0, 0);
        CottonWeeks y = millOfOneWeek("from 0 bread 99 piece 2 30;");
        y.stuff(2, 1, 50);
        Due.addHome(y, 0, 9, 1, 90, 99, 0, 0, 0, 7);
        Due.addHome(y, 0, 9, 1, 89, 99, 0, 0, 0, 7);
        y.step(1);
        Due.due("its MILL RAN, and it earned 900", y.ran(0, 0), 2);
        Due.dueRow("0 is left", Due.house(y, 0), 0, 9, 1, 0, 99, 0, 0, 0, 7, 0, 0);
        Due.dueRow("1 is lacking", Due.house(y, 1), 0, 9, 1, 6, 99, 0, 0, 0, 0, 0, 0);
    }

    /** Relief that a HOME of a head with these savings has in a WEEK. */
    private static int reliefOf(String list, int... items) {
        CottonWeeks x = new CottonWeeks();
        Due.read(x, list);
        Due.addHome(x, items);
        x.step(1);
        return x.house(0, 10);
    }

    private static void limitOrLess() {
        Due.sentence("its savings .. are limit or less: relief times heads comes to savings");
        String list = "from 0 relief 7 limit 50;";
        Due.due("less by 1", reliefOf(list, 5, 1, 0, 49, 0, 0, 0, 0, 0), 7);
        Due.due("limit", reliefOf(list, 5, 1, 0, 50, 0, 0, 0, 0, 0), 7);
        Due.due("more by 1", reliefOf(list, 5, 1, 0, 51, 0, 0, 0, 0, 0), 0);
        Due.due("other GOODS do not count", reliefOf(list, 5, 1, 0, 50, 0, 999, 999, 999, 999), 7);
        Due.due("the most limit", reliefOf("from 0 relief 7 limit 9999;", 5, 1, 0, 9999, 0, 0, 0, 0, 0), 7);
        Due.due("beyond it", reliefOf("from 0 relief 7 limit 9998;", 5, 1, 0, 9999, 0, 0, 0, 0, 0), 0);
        Due.due("a limit to come", reliefOf("from 0 relief 7;from 1 limit 50;", 5, 1, 0, 1, 0, 0, 0, 0, 0), 0);
        Due.due("relief to come", reliefOf("from 1 relief 7;from 0 limit 50;", 5, 1, 0, 1, 0, 0, 0, 0, 0), 0);
    }

    private static void limitOfWhatIsLeft() {
        Due.sentence("its savings (as they are then)");
        String list = "from 0 relief 7 limit 50 bread 10;";
        Due.due("limit", reliefOf(list, 5, 2, 0, 75, 5, 0, 0, 0, 0), 14);
        Due.due("more by 1", reliefOf(list, 5, 2, 0, 76, 5, 0, 0, 0, 0), 0);
        String firsts = "from 0 relief 7 limit 50 bread 10 first 2;";
        Due.due("below 0, with a GOOD: limit", reliefOf(firsts, 5, 2, 0, 0, 5, 0, 0, 75, 0), 14);
        Due.due("below 0, with a GOOD: more by 1", reliefOf(firsts, 5, 2, 0, 0, 5, 0, 0, 76, 0), 0);
    }

    private static void limitWithFirstGoods() {
        Due.sentence("and the worth of all GOODS that must go first");
        String[] firsts = {"", " first 0", " first 1", " first 2", " first 3", " first 3 first 0",
            " first 1 first 1", " first 0 first 1 first 2 first 3"};
        int[] worth = {0, 10, 20, 40, 80, 90, 20, 150};
        for (int k = 0; k < firsts.length; k++) {
            String list = "from 0 relief 7 limit 200" + firsts[k] + ";";
            int most = 200 - worth[k];
            Due.due("limit with" + firsts[k], reliefOf(list, 5, 1, 0, most, 0, 10, 20, 40, 80), 7);
            Due.due("more by 1 with" + firsts[k], reliefOf(list, 5, 1, 0, most + 1, 0, 10, 20, 40, 80), 0);
        }
    }

    private static void limitOfNought() {
        Due.sentence("limit; without: 0");
        Due.due("savings of 0", reliefOf("from 0 relief 7;", 5, 1, 0, 0, 0, 9, 9, 9, 9), 7);
        Due.due("savings of 1", reliefOf("from 0 relief 7;", 5, 1, 0, 1, 0, 9, 9, 9, 9), 0);
        Due.due("a GOOD of 1", reliefOf("from 0 relief 7 first 3;", 5, 1, 0, 0, 0, 9, 9, 9, 1), 0);
        Due.due("savings below 0", reliefOf("from 0 relief 7;", 5, 1, 0, 0, 1, 9, 9, 9, 9), 7);
        Due.due("no relief told", reliefOf("from 0 limit 50;", 5, 12, 0, 0, 1, 9, 9, 9, 9), 0);
    }

    private static void reliefByHeads() {
        Due.sentence("relief times heads comes to savings; 10 all relief it had");
        CottonWeeks x = new CottonWeeks();
        Due.read(x, "from 0 relief 99 limit 9999;from 2 relief 1;");
        Due.addHome(x, 5, 12, 0, 0, 0, 0, 0, 0, 0);
        Due.addHome(x, 5, 1, 1, 0, 99, 50, 0, 0, 0);
        Due.addHome(x, 5, 1, 1, 0, 98, 50, 0, 0, 0);
        x.step(1);
        Due.dueRow("twelve heads", Due.house(x, 0), 5, 12, 0, 1188, 0, 0, 0, 0, 0, 0, 1188);
        Due.dueRow("it pays the rent", Due.house(x, 1), 5, 1, 1, 0, 99, 50, 0, 0, 0, 0, 99);
        Due.dueRow("and a penny is left", Due.house(x, 2), 5, 1, 1, 1, 98, 50, 0, 0, 0, 0, 99);
        x.step(2);
        Due.due("of three WEEKS", x.house(0, 10), 12 * (99 + 99 + 1));
        Due.due("savings", x.house(0, 3), 12 * (99 + 99 + 1));
    }

    private static void noReliefIfItsMillRan() {
        Due.sentence("If its MILL STOOD (or is not there)");
        CottonWeeks x = millOfOneWeek("from 0 relief 7 limit 9999;");
        Due.addHome(x, 0, 1, 0, 0, 0, 0, 0, 0, 0);
        Due.addHome(x, 1, 1, 0, 0, 0, 0, 0, 0, 0);
        x.step(1);
        Due.due("it RAN", x.house(0, 10), 0);
        Due.due("it is not there", x.house(1, 10), 7);
        x.step(1);
        Due.due("it STOOD", x.house(0, 10), 7);
        Due.due("it is not there", x.house(1, 10), 14);
    }

    private static void goodsGoTillSavingsAreNought() {
        Due.sentence("one by one, till savings are 0 or more");
        int[] rents = {0, 9, 10, 11, 29, 30, 31, 59, 60, 61, 99};
        int[] left = {0, 1, 0, 19, 1, 0, 29, 1, 0, 39, 1};
        int[] gone = {0, 1, 1, 2, 2, 2, 3, 3, 3, 4, 4};
        for (int k = 0; k < rents.length; k++) {
            CottonWeeks x = new CottonWeeks();
            Due.addHome(x, 5, 1, 0, 0, rents[k], 10, 20, 30, 40);
            x.step(1);
            int[] want = {5, 1, 0, left[k], rents[k], 10, 20, 30, 40, 0, 0};
            for (int g = 0; g < gone[k]; g++) {
                want[5 + g] = 0;
            }
            Due.dueRow("rent of " + rents[k], Due.house(x, 0), want);
        }
    }

    private static void goodsInOrder() {
        Due.sentence("those that must go first in that order, then the others by numbers");
        CottonWeeks x = new CottonWeeks();
        Due.read(x, "from 0 first 3 first 1;");
        int[] rents = {8, 8 + 2, 8 + 2 + 1, 8 + 2 + 1 + 4};
        int[][] left = {{1, 2, 4, 0}, {1, 0, 4, 0}, {0, 0, 4, 0}, {0, 0, 0, 0}};
        for (int k = 0; k < rents.length; k++) {
            Due.addHome(x, 5, 1, 0, 0, rents[k], 1, 2, 4, 8);
        }
        x.step(1);
        for (int k = 0; k < rents.length; k++) {
            int[] goods = {x.house(k, 5), x.house(k, 6), x.house(k, 7), x.house(k, 8)};
            Due.dueRow("GOODS by a rent of " + rents[k], goods, left[k]);
            Due.due("savings", x.house(k, 3), 0);
            Due.due("HUNGER", x.house(k, 9), 0);
        }
    }

    private static void goodsThatAreGone() {
        Due.sentence("worth of GOODS 0 to 3 (0 to 999 each: 0 gone)");
        CottonWeeks x = new CottonWeeks();
        Due.read(x, "from 0 first 0;");
        Due.addHome(x, 5, 1, 0, 0, 5, 0, 0, 5, 999);
        Due.addHome(x, 5, 1, 0, 0, 6, 0, 0, 5, 999);
        x.step(1);
        Due.dueRow("the third is enough", Due.house(x, 0), 5, 1, 0, 0, 5, 0, 0, 0, 999, 0, 0);
        Due.dueRow("the last goes, too", Due.house(x, 1), 5, 1, 0, 998, 6, 0, 0, 0, 0, 0, 0);
    }

    private static void noneIsLeft() {
        Due.sentence("or none is left. If they are still below 0: they are 0, and it HUNGERS once more");
        CottonWeeks x = new CottonWeeks();
        Due.addHome(x, 5, 1, 0, 9, 50, 10, 10, 10, 11);
        Due.addHome(x, 5, 1, 0, 9, 50, 10, 10, 10, 10);
        Due.addHome(x, 5, 1, 0, 0, 1, 0, 0, 0, 0);
        Due.addHome(x, 5, 1, 0, 0, 0, 0, 0, 0, 0);
        x.step(1);
        Due.dueRow("0 is left", Due.house(x, 0), 5, 1, 0, 0, 50, 0, 0, 0, 0, 0, 0);
        Due.dueRow("1 is lacking", Due.house(x, 1), 5, 1, 0, 0, 50, 0, 0, 0, 0, 1, 0);
        Due.dueRow("1 is lacking, of none", Due.house(x, 2), 5, 1, 0, 0, 1, 0, 0, 0, 0, 1, 0);
        Due.dueRow("nothing is lacking", Due.house(x, 3), 5, 1, 0, 0, 0, 0, 0, 0, 0, 0, 0);
    }

    private static void hungersOnceMore() {
        Due.sentence("9 how often it HUNGERED");
        CottonWeeks x = new CottonWeeks();
        Due.read(x, "from 50 relief 99 limit 9999;");
        Due.addHome(x, 5, 1, 0, 0, 99, 0, 0, 0, 0);
        for (int k = 0; k < 5; k++) {
            x.step(20);
            Due.due("behind WEEK " + (20 * k + 19), x.house(0, 9), Math.min(50, 20 * k + 20));
        }
    }

    private static void homesToldLater() {
        Due.sentence("In STEP 4, by numbers (of HOMES there are)");
        CottonWeeks x = new CottonWeeks();
        x.step(20);
        Due.addHome(x, 5, 1, 0, 100, 1, 0, 0, 0, 0);
        Due.due("before its first WEEK", x.house(0, 3), 100);
        x.step(1);
        Due.due("behind it", x.house(0, 3), 99);
        for (int k = 0; k < 4; k++) {
            x.step(20);
        }
        Due.due("behind the last", x.house(0, 3), 100 - 80);
        x.step(5);
        Due.due("there are no more", x.house(0, 3), 100 - 80);
    }

    private static CottonWeeks owing(int n) {
        CottonWeeks x = new CottonWeeks();
        x.sheet(0, 2, n);
        return x;
    }

    private static void paidRanges() {
        Due.sentence("PAID by n (1 to 8); (k = 0 to n - 1); of k = n how many rounds. BAD: SHEET, n, k");
        Due.range("n", 1, 0, 8, 0, n -> owing(72).paid(0, 0, n, 0));
        for (int n = 1; n <= 8; n++) {
            int all = n;
            Due.range("k of " + n, 0, 0, n, 0, k -> owing(72).paid(0, 0, all, k));
        }
        Due.dueAll("BAD ahead of all findings", Due.BAD, owing(0).paid(0, -1, 0, 0), owing(0).paid(1, -1, 9, 0),
                owing(0).paid(1, 0, 2, 3), owing(0).paid(1, 0, 2, -1));
    }

    private static void paidPlaces() {
        Due.sentence("of a SHEET from i on n incomes, then n rows of n; PLACE");
        for (int n = 1; n <= 8; n++) {
            int items = n + n * n;
            Due.due("all of " + n, owing(items).paid(0, 0, n, n), 0);
            Due.due("one too few of " + n, owing(items - 1).paid(0, 0, n, n), Due.PLACE);
            Due.due("the last of 80", owing(80).paid(0, 80 - items, n, n), 0);
            Due.dueAll("no such place", Due.PLACE, owing(80).paid(0, 81 - items, n, n), owing(80).paid(0, -1, n, n),
                    owing(80).paid(0, Integer.MAX_VALUE, n, n), owing(80).paid(0, Integer.MIN_VALUE, n, n));
        }
    }

    private static int paidWith(int item, int v) {
        CottonWeeks x = owing(12);
        x.set(0, item, v);
        return x.paid(0, 0, 3, 3) == Due.BAD ? Due.BAD : 0;
    }

    private static void paidItems() {
        Due.sentence("n incomes (0 to 1000), what one owes to each (0 to 1000; to itself 0); then BAD: an ITEM");
        for (int item = 0; item < 12; item++) {
            int one = item;
            boolean toItself = item == 3 || item == 7 || item == 11;
            Due.range("ITEM " + item, 0, 0, toItself ? 0 : 1000, 0, v -> paidWith(one, v));
        }
        CottonWeeks x = owing(14);
        x.set(0, 12, -1);
        x.set(0, 13, 1001);
        Due.due("ITEMS behind them are others", x.paid(0, 0, 3, 0), 0);
        x.set(0, 0, -1);
        Due.due("ITEMS ahead of them are others", x.paid(0, 1, 2, 0), 0);
    }

    private static int[] paid(int n, int... items) {
        CottonWeeks x = new CottonWeeks();
        Due.lay(x, 0, items);
        int[] pays = new int[n + 1];
        for (int k = 0; k <= n; k++) {
            pays[k] = x.paid(0, 0, n, k);
        }
        return pays;
    }

    private static void paidOfOne() {
        Due.sentence("n of up to 8 who owe (one alone)");
        Due.dueRow("of no income", paid(1, 0, 0), 0, 0);
        Due.dueRow("of the most", paid(1, 1000, 0), 0, 0);
    }

    private static void paidIsTheLeast() {
        Due.sentence("the least of all it owes and of its income with what is paid to it");
        Due.dueRow("income is less by 1", paid(2, 9, 0, 0, 10, 0, 0), 9, 0, 1);
        Due.dueRow("income is what it owes", paid(2, 10, 0, 0, 10, 0, 0), 10, 0, 0);
        Due.dueRow("income is more by 1", paid(2, 11, 0, 0, 10, 0, 0), 10, 0, 0);
        Due.dueRow("with what is paid to it, less by 1", paid(2, 3, 10, 0, 9, 5, 0), 8, 5, 1);
        Due.dueRow("with what is paid to it", paid(2, 4, 10, 0, 9, 5, 0), 9, 5, 0);
        Due.dueRow("nothing", paid(2, 0, 0, 0, 1000, 0, 0), 0, 0, 1);
        Due.dueRow("at most", paid(2, 1000, 1000, 0, 1000, 1000, 0), 1000, 1000, 0);
        // 0 owes 1000 to each of seven, who have nothing and owe nothing.
        int[] items = new int[72];
        items[0] = 1000;
        for (int other = 1; other < 8; other++) {
            items[8 + other] = 1000;
        }
        Due.dueRow("all at most", paid(8, items), 1000, 0, 0, 0, 0, 0, 0, 0, 1);
    }

    private static void paidIsCut() {
        Due.sentence("what that one paid times what it owes to this by all it owes, cut");
        // 0 pays p of the 3 that it owes, 1 to one and 2 to two, who owe 3 to the fourth.
        int[][] shares = {{0, 0}, {0, 0}, {0, 1}, {1, 2}};
        for (int p = 0; p <= 3; p++) {
            int[] got = paid(4, p, 0, 0, 0, 0, 1, 2, 0, 0, 0, 0, 3, 0, 0, 0, 3, 0, 0, 0, 0);
            Due.due("0 pays", got[0], p);
            Due.due("1 pays", got[1], shares[p][0]);
            Due.due("2 pays", got[2], shares[p][1]);
        }
        // Each share is cut by itself: a half of a penny from each of two is nothing.
        Due.dueRow("two halves", paid(4, 1, 1, 0, 0, 0, 0, 1, 1, 0, 0, 1, 1, 0, 0, 0, 9, 0, 0, 0, 0), 1, 1, 0, 0, 2);
    }

    private static void paidFromAllInFull() {
        Due.sentence("from all paid in full on, in rounds: each pays, by what the round ahead paid");
        // Who begins with nothing paid ends with nothing paid: here all is paid in a ring without a penny.
        Due.dueRow("a ring", paid(3, 0, 0, 0, 0, 7, 0, 0, 0, 7, 7, 0, 0), 7, 7, 7, 0);
        // What 0 lacks reaches 1 a round later, and 2 a round behind that: not all in one.
        Due.dueRow("a row", paid(4, 1, 0, 0, 0, 0, 5, 0, 0, 0, 0, 5, 0, 0, 0, 0, 5, 0, 0, 0, 0), 1, 1, 1, 0, 3);
        Due.dueRow("a row told from its end", paid(4, 0, 0, 0, 1, 0, 0, 0, 0, 5, 0, 0, 0, 0, 5, 0, 0, 0, 0, 5, 0),
                0, 1, 1, 1, 3);
    }

    private static void paidRounds() {
        Due.sentence("until a round changes nothing; of k = n how many rounds changed something");
        Due.due("none", paid(2, 5, 0, 0, 5, 0, 0)[2], 0);
        Due.due("one", paid(2, 4, 0, 0, 5, 0, 0)[2], 1);
        Due.dueRow("two pence and a third", paid(3, 0, 0, 0, 0, 1, 1, 1, 0, 0, 0, 0, 0), 0, 0, 0, 3);
        CottonWeeks x = new CottonWeeks();
        // A penny of the 1000 leaves the ring of two every second round.
        Due.lay(x, 0, 0, 0, 0, 0, 1000, 1, 1000, 0, 0, 0, 0, 0);
        Due.due("many", x.paid(0, 0, 3, 3), 2001);
        Due.due("0 pays", x.paid(0, 0, 3, 0), 0);
        Due.due("it is the same again", x.paid(0, 0, 3, 3), 2001);
    }

    private static void paidByThoseWhoOweNothing() {
        Due.sentence("by all it owes (who owes nothing)");
        Due.dueRow("none owes", paid(3, 1000, 1000, 1000, 0, 0, 0, 0, 0, 0, 0, 0, 0), 0, 0, 0, 0);
        Due.dueRow("one owes", paid(3, 0, 1000, 0, 0, 0, 0, 0, 0, 1, 0, 0, 0), 0, 1, 0, 0);
        CottonWeeks x = new CottonWeeks();
        Due.lay(x, 0, 1, 1, 0, 9, 9, 0);
        Due.due("of a call", x.paid(0, 0, 2, 0), 9);
        Due.lay(x, 0, 1, 1, 0, 0, 0, 0);
        Due.due("of the next nothing is left", x.paid(0, 0, 2, 0), 0);
    }
}
