/** Promises 14 to 18: THE TAPE, LISTS, FAULTS and what holds. */
public final class ListsTest {
    public static void main(String[] args) {
        feeds();
        readsTokens();
        faultsOfPlace();
        faultsOfNumbers();
        faultsOfMany();
        faultsStay();
        latestHolds();
        earns();
        firsts();
        Due.end();
    }

    private static void feeds() {
        CottonWeeks x = new CottonWeeks();
        Due.dueAll("feed BAD", Due.BAD, x.feed(0, 0), x.feed(0, -1), x.feed(0, 9), x.feed(0, Integer.MAX_VALUE));
        Due.due("feed", x.feed(' ', 1), 1);
        for (int k = 1; k < 50; k++) {
            Due.due("feed", x.feed(0x2020202020202020L, 8), 1 + 8 * k);
        }
        Due.due("feed FULL", x.feed(0x2020202020202020L, 8), Due.FULL);
        Due.due("feed BAD ahead of FULL", x.feed(0, 9), Due.BAD);
        Due.due("none came", x.count(8), 393);
        Due.due("feed", x.feed(0x20202020202020L, 7), 400);
        Due.due("feed FULL", x.feed(' ', 1), Due.FULL);
        Due.due("gaps alone", x.lists(), 0);
        Due.due("empty", x.count(8), 0);
        CottonWeeks y = new CottonWeeks();
        // Only the lowest bytes come, and 'm 1 b' begins with the highest of them.
        Due.due("feed", y.feed(0x7FFF_0066_726FL, 3), 3);
        Due.due("feed", y.feed(-1L << 40 | 0x6D_2031_2062L, 5), 8);
        Due.due("feed", y.feed(0x72656164_20373B0AL, 8), 16);
        Due.due("lists", y.lists(), 1);
        Due.due("bread", y.holds(1, 6), 7);
        Due.due("nothing", y.lists(), 1);
        CottonWeeks z = new CottonWeeks();
        z.feed(0xFF, 1);
        Due.due("a byte above 127", z.lists(), -1000100);
    }

    private static void readsTokens() {
        CottonWeeks x = new CottonWeeks();
        Due.due("no gaps", Due.read(x, "from7piece2 9relief8;from8bread3;"), 3);
        Due.due("many gaps", Due.read(x, "\n from\n\n9 limit   0045\n;\n"), 4);
        Due.due("piece", x.holds(7, 2), 9);
        Due.due("relief", x.holds(7, 4), 8);
        Due.due("bread", x.holds(8, 6), 3);
        Due.due("limit", x.holds(9, 5), 45);
        Due.due("most", Due.read(x, "from 0099 piece 3 99 relief 99 limit 9999 bread 99 first 3;"), 9);
        Due.dueRow("most", new int[] {x.holds(99, 3), x.holds(99, 4), x.holds(99, 5), x.holds(99, 6), x.holds(99, 7)},
                99, 99, 9999, 99, 8);
        Due.due("rules", x.count(4), 9);
    }

    private static void faultsOfPlace() {
        CottonWeeks x = new CottonWeeks();
        Due.fault(x, "from", 4, 1);
        Due.fault(x, "from  ", 6, 1);
        Due.fault(x, "from 1", 6, 1);
        Due.fault(x, "from 1 bread", 12, 1);
        Due.fault(x, "from 1 bread 1", 14, 1);
        Due.fault(x, "from 1 piece 1", 14, 1);
        Due.fault(x, "from 1 bread 1;from", 19, 1);
        Due.fault(x, ";", 0, 1);
        Due.fault(x, "7", 0, 1);
        Due.fault(x, "\n bread 1;", 2, 1);
        Due.fault(x, "fromm 1 bread 1;", 0, 1);
        Due.fault(x, "fro 1 bread 1;", 0, 1);
        Due.fault(x, "from from 1;", 5, 1);
        Due.fault(x, "from;", 4, 1);
        Due.fault(x, "from 1;", 6, 1);
        Due.fault(x, "from 1 1;", 7, 1);
        Due.fault(x, "from 1 from 2 bread 1;", 7, 1);
        Due.fault(x, "from 1 brea 1;", 7, 1);
        Due.fault(x, "krom 1 bread 1;", 0, 1);
        Due.fault(x, "from 1 tread 1;", 7, 1);
        Due.fault(x, "from 1 breadz 1;", 7, 1);
        Due.fault(x, "from 1 abread 1;", 7, 1);
        Due.fault(x, "from 1 bread bread 1;", 13, 1);
        Due.fault(x, "from 1 bread 1 1;", 15, 1);
        Due.fault(x, "from 1 bread 1 from 2 bread 1;", 15, 1);
        Due.fault(x, "from 1 piece 1;", 14, 1);
        Due.fault(x, "from 1 piece 1 bread 1;", 15, 1);
        Due.fault(x, "from 1 relief;", 13, 1);
        Due.fault(x, "from 1 Bread 1;", 7, 1);
        Due.fault(x, "from 1 breAd 1;", 7, 1);
        Due.fault(x, "from 1 bread -1;", 13, 1);
        Due.fault(x, "from 1 bread 1,", 14, 1);
        Due.fault(x, "from 1\tbread 1;", 6, 1);
        Due.fault(x, "from 1\rbread 1;", 6, 1);
        Due.fault(x, "from 1 bread 1;\0", 15, 1);
        Due.fault(x, "from 1 bread 1{", 14, 1);
        Due.fault(x, "from 1 bread 1`", 14, 1);
        Due.fault(x, "from 1 bread 1/", 14, 1);
        Due.fault(x, "from 1 bread 1:", 14, 1);
        Due.fault(x, "from 1 bread 00001;", 13, 1);
        Due.fault(x, "from 00001 bread 1;", 5, 1);
        Due.fault(x, "from 1 limit 4294967297;", 13, 1);
        Due.fault(x, "12345", 0, 1);
        Due.due("no rule came", x.count(4), 0);
        faultsOfFullTapes();
    }

    private static void faultsOfFullTapes() {
        CottonWeeks x = new CottonWeeks();
        Due.fault(x, " ".repeat(399) + "z", 399, 1);
        Due.fault(x, " ".repeat(394) + "from 9", 400, 1);
        Due.fault(x, " ".repeat(396) + "from", 400, 1);
        Due.fault(x, "z".repeat(400), 0, 1);
        Due.fault(x, "9".repeat(400), 0, 1);
    }

    private static void faultsOfNumbers() {
        CottonWeeks x = new CottonWeeks();
        Due.fault(x, "from 100 bread 1;", 5, 2);
        Due.fault(x, "from 9999 bread 1;", 5, 2);
        Due.fault(x, "from 1 piece 4 1;", 13, 2);
        for (int sort = 0; sort < 4; sort++) {
            Due.fault(x, "from 1 piece " + sort + " 100;", 15, 2);
            Due.due("most", Due.read(new CottonWeeks(), "from 1 piece " + sort + " 99;"), 1);
        }
        Due.fault(x, "from 1 relief 100;", 14, 2);
        Due.fault(x, "from 1 bread 100;", 13, 2);
        Due.fault(x, "from 1 first 4;", 13, 2);
        Due.fault(x, "from 1 first 4 bread", 13, 2);
        Due.fault(x, "from 1 bread 1;from 2 first 4", 28, 2);
        Due.fault(x, "from 1 bread 1 oops first 4", 15, 1);
        Due.due("no rule came", x.count(4), 0);
    }

    private static void faultsOfMany() {
        CottonWeeks x = new CottonWeeks();
        String rule = "bread 1 ";
        Due.due("30", Due.read(x, "from 1 " + rule.repeat(30) + ";"), 30);
        Due.fault(x, "from 1 bread 1;", 7, 3);
        Due.fault(x, "from 1 bread 100;", 7, 3);
        Due.fault(x, "from 1 bred 1;", 7, 1);
        Due.fault(x, "from 1;", 6, 1);
        Due.fault(x, "from 100 bread 1;", 5, 2);
        Due.due("nothing is no fault", x.lists(), 30);
        CottonWeeks y = new CottonWeeks();
        Due.fault(y, "from 1 " + rule.repeat(31) + ";", 7 + 30 * 8, 3);
        Due.due("29", Due.read(y, "from 1 " + rule.repeat(29) + ";"), 29);
        Due.fault(y, "from 2 relief 1 limit 1;", 16, 3);
        Due.fault(y, "from 2 relief 1;from 3 limit 1;", 23, 3);
        Due.due("the 30th", Due.read(y, "from 2 relief 1;"), 30);
        Due.due("it holds", y.holds(2, 4), 1);
        Due.due("the others do not", y.holds(99, 5), 0);
    }

    private static void faultsStay() {
        CottonWeeks x = new CottonWeeks();
        Due.fault(x, "from 100", 5, 2);
        Due.due("no fault", Due.read(x, "from 1 bread 2 relief 3;"), 2);
        Due.due("the latest stays", x.fault(), 2);
        Due.fault(x, "from 1 bread 9 relief 9 limit;", 29, 1);
        Due.due("none came", x.holds(1, 6), 2);
        Due.due("none came", x.holds(1, 4), 3);
        Due.fault(x, "from 0 first 1 first 2 oops", 23, 1);
        Due.due("none came", x.first(99, 0), Due.NONE);
        Due.due("none came", x.holds(99, 7), 0);
    }

    private static void latestHolds() {
        CottonWeeks x = new CottonWeeks();
        Due.dueAll("holds BAD", Due.BAD, x.holds(-1, 0), x.holds(100, 0), x.holds(0, -1), x.holds(0, 8), x.holds(0, 9),
                x.holds(0, 14), x.holds(100, 10));
        Due.read(x, "from 5 piece 1 10 relief 20 limit 300 bread 4;from 2 piece 1 11 relief 21 limit 301 bread 5;");
        Due.read(x, "from 5 piece 1 12 piece 1 13 piece 2 14;");
        Due.dueRow("piece 1", new int[] {x.holds(1, 1), x.holds(2, 1), x.holds(4, 1), x.holds(5, 1), x.holds(99, 1)},
                0, 11, 11, 13, 13);
        Due.dueRow("piece 2", new int[] {x.holds(4, 2), x.holds(5, 2)}, 0, 14);
        Due.dueRow("relief", new int[] {x.holds(1, 4), x.holds(2, 4), x.holds(5, 4)}, 0, 21, 20);
        Due.dueRow("limit", new int[] {x.holds(1, 5), x.holds(2, 5), x.holds(5, 5)}, 0, 301, 300);
        Due.dueRow("bread", new int[] {x.holds(1, 6), x.holds(2, 6), x.holds(5, 6)}, 0, 5, 4);
        Due.dueRow("others", new int[] {x.holds(99, 0), x.holds(99, 3), x.holds(99, 7)}, 0, 0, 0);
    }

    private static void earns() {
        CottonWeeks x = new CottonWeeks();
        Due.read(x, "from 1 piece 0 2 piece 1 3 piece 2 99 piece 3 5;");
        Due.dueRow("earn", new int[] {x.holds(1, 10), x.holds(1, 11), x.holds(1, 12), x.holds(1, 13), x.holds(0, 10)},
                120, 150, 42 * 99, 37 * 5, 0);
        x.stuff(2, 1, 99);
        Due.due("earn on worse stuff", x.holds(1, 12), 20 * 99);
        x.stuff(2, 1, 0);
        Due.due("earn on better", x.holds(99, 12), 60 * 99);
    }

    private static void firsts() {
        CottonWeeks x = new CottonWeeks();
        Due.dueAll("first BAD", Due.BAD, x.first(-1, 0), x.first(100, 0));
        Due.dueAll("first NONE", Due.NONE, x.first(0, 0), x.first(99, -1), x.first(99, 4),
                x.first(99, Integer.MAX_VALUE), x.first(99, Integer.MIN_VALUE));
        Due.read(x, "from 5 first 3 first 1 first 3;from 2 first 2;");
        Due.read(x, "from 7 first 2 first 0;from 2 first 1;");
        dueFirsts(x, 1);
        dueFirsts(x, 2, 2, 1);
        dueFirsts(x, 4, 2, 1);
        dueFirsts(x, 5, 2, 1, 3);
        dueFirsts(x, 7, 2, 1, 3, 0);
        dueFirsts(x, 99, 2, 1, 3, 0);
        Due.read(x, "from 0 first 0;");
        dueFirsts(x, 0, 0);
        dueFirsts(x, 99, 0, 2, 1, 3);
    }

    private static void dueFirsts(CottonWeeks x, int week, int... goods) {
        int set = 0;
        for (int i = 0; i < goods.length; i++) {
            Due.due("first(" + week + ", " + i + ")", x.first(week, i), goods[i]);
            set |= 1 << goods[i];
        }
        Due.due("first beyond", x.first(week, goods.length), Due.NONE);
        Due.due("first below", x.first(week, -1), Due.NONE);
        Due.due("set of firsts", x.holds(week, 7), set);
    }
}
