/** Promises 6 to 13: stuffs, SHIPS, MILLS, STEPS and PRICES. */
public final class CountyTest {
    public static void main(String[] args) {
        stuffs();
        ships();
        mills();
        stocks();
        prices();
        steps();
        shipsComeThrough();
        runsOnTheCheapest();
        ownBalesFirst();
        standsAndSells();
        sellsToTheNext();
        runsOfWeeks();
        Due.end();
    }

    private static void stuffs() {
        CottonWeeks x = new CottonWeeks();
        for (int what = 0; what <= 2; what++) {
            Due.dueAll("stuff BAD sort", Due.BAD, x.stuff(-1, what, 1), x.stuff(4, what, 1));
        }
        Due.dueAll("stuff BAD", Due.BAD, x.stuff(0, -1, 1), x.stuff(0, 5, 1), x.stuff(0, 0, 0), x.stuff(0, 0, 1001),
                x.stuff(0, 1, -1), x.stuff(0, 1, 100), x.stuff(0, 2, -1), x.stuff(0, 2, 10000), x.stuff(0, 3, -1),
                x.stuff(0, 3, 5001), x.stuff(0, 4, -1), x.stuff(0, 4, 101));
        for (int sort = 0; sort < 4; sort++) {
            Due.due("base", x.stuff(sort, 0, 1000), 100);
            Due.due("base", x.stuff(sort, 0, 1), 1000);
            Due.due("base", x.stuff(sort, 0, 100 + sort), 1);
            Due.due("breaks", x.stuff(sort, 1, 99), 10 * sort);
            Due.due("breaks", x.stuff(sort, 1, 0), 99);
            Due.due("port", x.stuff(sort, 2, 9999), 0);
            Due.due("port", x.stuff(sort, 2, 0), 9999);
            Due.due("port", x.stuff(sort, 2, sort), 0);
        }
        Due.due("base of each", x.stuff(2, 0, 1), 102);
        Due.due("port of each", x.stuff(2, 2, 1), 2);
        Due.due("cloth of any", x.stuff(-7, 3, 5000), 500);
        Due.due("cloth of any", x.stuff(Integer.MAX_VALUE, 3, 0), 5000);
        Due.due("fear of any", x.stuff(-7, 4, 100), 0);
        Due.due("fear of any", x.stuff(9, 4, 0), 100);
    }

    private static void ships() {
        CottonWeeks x = new CottonWeeks();
        Due.dueAll("ship BAD", Due.BAD, x.ship(-1, 0, 1, 1), x.ship(100, 0, 1, 1), x.ship(0, -1, 1, 1),
                x.ship(0, 4, 1, 1), x.ship(0, 0, 0, 1), x.ship(0, 0, 501, 1), x.ship(0, 0, 1, -1), x.ship(0, 0, 1, 2));
        for (int s = 1; s <= 30; s++) {
            Due.due("ship", x.ship(s % 2 * 99, s % 4, s % 2 == 0 ? 1 : 500, s % 2), s);
        }
        Due.due("ship FULL", x.ship(0, 0, 1, 1), Due.FULL);
        Due.due("ship BAD ahead of FULL", x.ship(0, 0, 0, 1), Due.BAD);
        Due.due("ships", x.count(3), 30);
        Due.due("30 are looked at", x.step(1), 1);
        Due.due("none of week 0 came through", x.count(9), 0);
    }

    private static void mills() {
        CottonWeeks x = new CottonWeeks();
        Due.dueAll("mill BAD", Due.BAD, x.mill(0, 1, 0, 0), x.mill(51, 1, 0, 0), x.mill(1, 0, 0, 0),
                x.mill(1, 16, 0, 0), x.mill(1, 1, -1, 0), x.mill(1, 1, 1001, 0), x.mill(1, 1, 0, -1),
                x.mill(1, 1, 0, 5001));
        Due.due("none", x.count(1), 0);
        Due.due("mill", x.mill(1, 1, 0, 0), 0);
        Due.due("mill", x.mill(50, 15, 1000, 5000), 1);
        for (int m = 2; m < 6; m++) {
            Due.due("mill", x.mill(m, m, m, m), m);
        }
        Due.due("mill FULL", x.mill(1, 1, 0, 0), Due.FULL);
        Due.due("mill BAD ahead of FULL", x.mill(0, 1, 0, 0), Due.BAD);
        Due.due("six", x.count(1), 6);
        int[] second = {50, 15, 1000, 5000, 0, 0, 0, 0, 0, 0};
        for (int what = 0; what <= 9; what++) {
            Due.due("told " + what, x.told(1, what), second[what]);
        }
        Due.dueAll("told BAD", Due.BAD, x.told(-1, 0), x.told(6, 0), x.told(0, -1), x.told(0, 10));
        Due.due("told of one that is not there", new CottonWeeks().told(0, 0), Due.BAD);
    }

    private static void stocks() {
        CottonWeeks x = new CottonWeeks();
        Due.due("stock of none", x.stock(0, 0, 1), Due.BAD);
        x.mill(1, 1, 0, 0);
        x.mill(1, 1, 0, 0);
        Due.dueAll("stock BAD", Due.BAD, x.stock(-1, 0, 1), x.stock(2, 0, 1), x.stock(0, -1, 1), x.stock(0, 4, 1),
                x.stock(0, 0, -1), x.stock(0, 0, 10000));
        for (int sort = 0; sort < 4; sort++) {
            Due.due("stock", x.stock(1, sort, 9999), 0);
            Due.due("stock", x.stock(1, sort, 10 + sort), 9999);
        }
        for (int sort = 0; sort < 4; sort++) {
            Due.due("told", x.told(1, 4 + sort), 10 + sort);
            Due.due("told of the other", x.told(0, 4 + sort), 0);
        }
        Due.due("stock of none", x.stock(1, 0, 0), 10);
        Due.due("stock of none", x.stock(1, 0, 10), 0);
        Due.due("port, too", x.stuff(3, 2, 100), 0);
        Due.due("all bales", x.count(9), 146);
    }

    private static void prices() {
        CottonWeeks x = new CottonWeeks();
        Due.dueAll("price BAD", Due.BAD, x.price(-1, 0), x.price(4, 0), x.price(0, -1), x.price(0, 2));
        x.stuff(0, 4, 7);
        Due.due("fear alone", x.price(0, 0), 700);
        x.mill(10, 3, 0, 0);
        x.mill(5, 2, 0, 0);
        Due.due("one takes it", x.price(0, 0), 4700);
        Due.due("5000 at most", x.price(1, 0), 5000);
        x.stuff(1, 2, 20);
        x.stock(0, 1, 2);
        x.stock(1, 1, 3);
        Due.due("all that is there", x.price(1, 0), 100 * 67 / 26);
        x.stock(1, 0, 3);
        Due.due("of one who does not take it, too", x.price(0, 0), 4700 / 4);
        x.stuff(2, 2, 9999);
        Due.due("1 at least", x.price(2, 0), 1);
        x.stuff(2, 0, 1000);
        x.stuff(2, 2, 6);
        Due.due("by base", x.price(2, 0), 1000);
        Due.due("no step yet", x.price(2, 1), Due.NONE);
        x.step(1);
        x.stuff(2, 0, 500);
        Due.due("as of the step", x.price(2, 1), 1000);
        Due.due("as it would be", x.price(2, 0), 500);
    }

    private static void steps() {
        CottonWeeks x = new CottonWeeks();
        Due.dueAll("step BAD", Due.BAD, x.step(0), x.step(-1), x.step(21), x.step(Integer.MIN_VALUE));
        Due.due("the week", x.count(7), 0);
        Due.due("step", x.step(1), 1);
        Due.due("the week", x.count(7), 1);
        for (int k = 0; k < 4; k++) {
            Due.due("step", x.step(20), 20);
        }
        Due.due("the week", x.count(7), 81);
        Due.due("step", x.step(20), 19);
        Due.due("the week", x.count(7), 100);
        Due.due("no more", x.step(20), 0);
        Due.due("no more", x.step(21), Due.BAD);
        Due.due("the week", x.count(7), 100);
    }

    private static void shipsComeThrough() {
        CottonWeeks x = new CottonWeeks();
        x.step(1);
        x.ship(0, 0, 7, 1);
        x.ship(1, 1, 11, 1);
        x.ship(1, 1, 13, 1);
        x.ship(1, 2, 17, 0);
        x.ship(2, 3, 500, 1);
        x.stuff(1, 2, 9990);
        Due.due("none has come", x.count(9), 9990);
        x.step(1);
        Due.due("a ship of a week that is gone", x.stuff(0, 2, 0), 0);
        Due.due("one that does not come through", x.stuff(2, 2, 0), 0);
        Due.due("one to come", x.stuff(3, 2, 0), 0);
        Due.due("all of the week", x.stuff(1, 2, 0), 10014);
        x.step(1);
        Due.due("of the next", x.stuff(3, 2, 0), 500);
        Due.due("they are told still", x.count(3), 5);
        CottonWeeks y = new CottonWeeks();
        y.stuff(0, 4, 100);
        y.ship(0, 0, 99, 1);
        y.step(1);
        Due.due("ships ahead of prices", y.price(0, 1), 100);
    }

    private static void runsOnTheCheapest() {
        CottonWeeks x = new CottonWeeks();
        x.mill(10, 14, 100, 0);
        x.stuff(0, 2, 100);
        x.stuff(1, 2, 9);
        x.stuff(2, 2, 15);
        x.stuff(3, 2, 15);
        x.step(1);
        Due.due("sort 0 is not taken, of 1 are too few, of 2 and 3 the first", x.ran(0, 0), 2);
        Due.due("price", x.price(2, 1), 250);
        Due.due("bales", x.stuff(2, 2, 15), 5);
        Due.due("coin", x.told(0, 8), 2500);
        x.stuff(3, 0, 99);
        x.step(1);
        Due.due("the cheaper", x.ran(0, 1), 3);
        x.stuff(3, 2, 0);
        x.stuff(0, 3, 350);
        x.step(1);
        Due.due("cloth is margin above", x.ran(0, 2), 2);
        x.stuff(2, 2, 15);
        x.stuff(0, 3, 349);
        x.step(1);
        Due.due("cloth is less above", x.ran(0, 3), Due.NONE);
        Due.due("it used none", x.stuff(2, 2, 15), 15);
        Due.due("it ran thrice", x.told(0, 9), 3);
        x.stuff(0, 3, 5000);
        x.stuff(1, 2, 10);
        x.stuff(2, 2, 9);
        x.stuff(1, 0, 1000);
        x.step(1);
        Due.due("of the cheapest are too few", x.ran(0, 4), 1);
        Due.due("need is enough", x.stuff(1, 2, 0), 0);
    }

    private static void ownBalesFirst() {
        CottonWeeks x = new CottonWeeks();
        x.mill(10, 1, 0, 0);
        x.stock(0, 0, 4);
        x.stuff(0, 2, 35);
        x.step(1);
        Due.due("price", x.price(0, 1), 100);
        Due.due("its own are used", x.told(0, 4), 0);
        Due.due("and six of the port", x.stuff(0, 2, 35), 29);
        Due.due("coin", x.told(0, 8), 10 * 500 - 6 * 100);
        x.stock(0, 0, 39);
        x.stuff(0, 2, 0);
        x.step(1);
        Due.due("ten of its own", x.told(0, 4), 29);
        Due.due("for nothing", x.told(0, 8), 4400 + 5000);
    }

    private static void standsAndSells() {
        CottonWeeks x = new CottonWeeks();
        x.mill(10, 1, 1000, 100);
        x.mill(10, 1, 1000, 0);
        x.stock(0, 0, 9);
        x.stock(0, 1, 3);
        x.stock(0, 2, 4);
        x.stock(1, 0, 5);
        x.stock(1, 1, 1);
        x.stuff(0, 2, 65);
        x.stuff(0, 4, 5);
        x.stuff(2, 2, 1);
        x.step(1);
        Due.due("price is hold", x.price(0, 1), 8500 / 80);
        Due.due("of one it does not take", x.price(1, 1), 100);
        Due.due("price is below hold", x.price(2, 1), 83);
        Due.due("sold", x.told(0, 4), 0);
        Due.due("sold, whether it takes it or not", x.told(0, 5), 0);
        Due.due("kept", x.told(0, 6), 4);
        Due.due("coin", x.told(0, 8), 9 * 106 + 3 * 100);
        Due.due("port", x.stuff(0, 2, 0), 74);
        Due.due("port", x.stuff(1, 2, 0), 3);
        Due.due("hold 0 never sells", x.told(1, 4), 5);
        Due.due("hold 0 never sells", x.told(1, 8), 0);
        Due.due("ran", x.ran(0, 0), Due.NONE);
        Due.due("weeks", x.told(0, 9), 0);
        CottonWeeks y = new CottonWeeks();
        y.mill(1, 1, 0, 1);
        y.stock(0, 0, 100);
        y.stock(0, 1, 50);
        y.step(1);
        Due.due("one that runs sells nothing", y.told(0, 5), 50);
        Due.due("it ran", y.ran(0, 0), 0);
    }

    private static void sellsToTheNext() {
        CottonWeeks x = new CottonWeeks();
        x.mill(10, 1, 1000, 1);
        x.mill(20, 1, 0, 0);
        x.stock(0, 0, 60);
        x.step(1);
        Due.due("the first stood", x.ran(0, 0), Due.NONE);
        Due.due("the next ran on what it sold", x.ran(1, 0), 0);
        int price = 100 * 120 / 61;
        Due.due("coin", x.told(0, 8), 60 * price);
        Due.due("coin", x.told(1, 8), 20 * (500 - price));
        Due.due("bales", x.count(9), 40);
        CottonWeeks y = new CottonWeeks();
        y.mill(20, 1, 0, 0);
        y.mill(10, 1, 1000, 1);
        y.stock(1, 0, 60);
        y.step(2);
        Due.due("the one ahead must wait", y.ran(0, 0), Due.NONE);
        Due.due("a week", y.ran(0, 1), 0);
    }

    private static void runsOfWeeks() {
        CottonWeeks x = new CottonWeeks();
        Due.dueAll("ran BAD", Due.BAD, x.ran(-1, 0), x.ran(6, 0), x.ran(0, -1), x.ran(0, 100));
        Due.dueAll("ran of none", Due.NONE, x.ran(0, 0), x.ran(5, 99));
        x.step(2);
        x.mill(10, 2, 0, 0);
        x.stock(0, 1, 30);
        x.step(20);
        Due.dueRow("ran", new int[] {x.ran(0, 0), x.ran(0, 1), x.ran(0, 2), x.ran(0, 3), x.ran(0, 4), x.ran(0, 21)},
                Due.NONE, Due.NONE, 1, 1, 1, Due.NONE);
        Due.due("to come", x.ran(0, 99), Due.NONE);
        Due.due("weeks", x.told(0, 9), 3);
    }
}
