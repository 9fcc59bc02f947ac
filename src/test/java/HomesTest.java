/** Promises 19 to 21: HOMES, STEP 4 and PAID. */
public final class HomesTest {
    public static void main(String[] args) {
        refusesHomes();
        tellsHouses();
        earnsAndSpends();
        getsRelief();
        sellsGoods();
        hungers();
        changesWithTheMill();
        refusesPaid();
        pays();
        paysInRounds();
        Due.end();
    }

    private static void refusesHomes() {
        CottonWeeks x = new CottonWeeks();
        Due.dueAll("home BAD", Due.BAD, x.home(-1, 0), x.home(8, 0));
        Due.due("home NULL", x.home(0, -5), Due.NULL);
        Due.lay(x, 0, 99, 5, 12, 12, 9999, 99, 999, 0, 999, 1);
        Due.dueAll("home PLACE", Due.PLACE, x.home(0, -1), x.home(0, 2), x.home(0, Integer.MAX_VALUE));
        int[] least = {0, 1, 0, 0, 0, 0, 0, 0, 0};
        int[] most = {5, 12, 12, 9999, 99, 999, 999, 999, 999};
        for (int k = 0; k < 9; k++) {
            int[] low = least.clone();
            low[k]--;
            Due.due("item " + k + " too low", Due.addHome(x, low), Due.BAD);
            int[] high = most.clone();
            high[k]++;
            Due.due("item " + k + " too high", Due.addHome(x, high), Due.BAD);
        }
        Due.due("more hands than heads", Due.addHome(x, 0, 3, 4, 0, 0, 0, 0, 0, 0), Due.BAD);
        Due.due("none", x.count(2), 0);
        Due.due("least", Due.addHome(x, least), 0);
        Due.due("most", Due.addHome(x, most), 1);
        Due.due("from 1 on", x.home(0, 1), 2);
        for (int h = 3; h < 12; h++) {
            Due.due("home", x.home(7, 0), h);
        }
        Due.dueAll("home FULL", Due.FULL, x.home(7, 0), x.home(5, 0), x.home(7, 9));
        Due.due("home BAD ahead of FULL", x.home(8, 0), Due.BAD);
        Due.due("twelve", x.count(2), 12);
        takesNineItems();
    }

    private static void takesNineItems() {
        CottonWeeks x = new CottonWeeks();
        int[] items = new int[80];
        items[1] = 1;
        items[9] = 1000;
        items[70] = -1;
        items[72] = 12;
        items[79] = 999;
        Due.lay(x, 0, items);
        Due.due("the tenth is another thing", x.home(0, 0), 0);
        Due.due("the last nine", x.home(0, 71), 1);
        Due.due("heads", x.house(1, 1), 12);
        Due.due("the last good", x.house(1, 8), 999);
        Due.due("beyond", x.home(0, 72), Due.PLACE);
    }

    private static void tellsHouses() {
        CottonWeeks x = new CottonWeeks();
        Due.due("house of none", x.house(0, 0), Due.BAD);
        Due.addHome(x, 1, 2, 0, 4, 5, 6, 7, 8, 9);
        Due.addHome(x, 5, 12, 11, 10, 9, 8, 7, 6, 5);
        Due.dueRow("house 0", Due.house(x, 0), 1, 2, 0, 4, 5, 6, 7, 8, 9, 0, 0);
        Due.dueRow("house 1", Due.house(x, 1), 5, 12, 11, 10, 9, 8, 7, 6, 5, 0, 0);
        Due.dueAll("house BAD", Due.BAD, x.house(-1, 0), x.house(2, 0), x.house(0, -1), x.house(0, 11));
        x.set(7, 3, 0);
        Due.due("the sheet is another thing", x.house(1, 3), 10);
    }

    private static void earnsAndSpends() {
        CottonWeeks x = new CottonWeeks();
        Due.read(x, "from 0 piece 0 4 piece 2 5 bread 10 relief 50 limit 9999;from 1 bread 11 piece 2 6;");
        x.mill(10, 4, 0, 0);
        x.stock(0, 2, 200);
        Due.addHome(x, 0, 4, 3, 100, 7, 0, 0, 0, 0);
        x.step(1);
        Due.due("earned on sort 2", x.house(0, 3), 100 + 3 * 42 * 5 - 40 - 7);
        Due.due("no relief", x.house(0, 10), 0);
        x.step(1);
        Due.due("by the week's rules", x.house(0, 3), 683 + 3 * 42 * 6 - 44 - 7);
        x.stuff(2, 1, 70);
        x.step(1);
        Due.due("on worse stuff", x.house(0, 3), 1388 + 3 * 25 * 6 - 44 - 7);
    }

    private static void getsRelief() {
        CottonWeeks x = new CottonWeeks();
        Due.read(x, "from 0 relief 9 limit 100 bread 10 first 3 first 1;");
        // Bread and rent take 35: what is left with GOODS 1 and 3 is 100, or 101.
        Due.addHome(x, 5, 3, 3, 85, 5, 900, 20, 900, 30);
        Due.addHome(x, 5, 3, 3, 86, 5, 900, 20, 900, 30);
        Due.addHome(x, 5, 3, 3, 0, 5, 900, 20, 900, 115);
        Due.addHome(x, 5, 3, 3, 0, 5, 900, 20, 900, 116);
        x.step(1);
        Due.dueRow("limit", Due.house(x, 0), 5, 3, 3, 77, 5, 900, 20, 900, 30, 0, 27);
        Due.dueRow("above limit", Due.house(x, 1), 5, 3, 3, 51, 5, 900, 20, 900, 30, 0, 0);
        Due.dueRow("limit, in debt", Due.house(x, 2), 5, 3, 3, 107, 5, 900, 20, 900, 0, 0, 27);
        Due.dueRow("above limit, in debt", Due.house(x, 3), 5, 3, 3, 81, 5, 900, 20, 900, 0, 0, 0);
        x.step(1);
        Due.due("relief adds up", x.house(0, 10), 54);
        CottonWeeks y = new CottonWeeks();
        Due.read(y, "from 0 relief 9 first 0;");
        Due.addHome(y, 0, 1, 0, 0, 0, 0, 5, 5, 5);
        Due.addHome(y, 0, 1, 0, 1, 0, 0, 5, 5, 5);
        y.step(1);
        Due.due("without a limit: 0", y.house(0, 3), 9);
        Due.due("without a limit: 0", y.house(1, 3), 1);
    }

    private static void sellsGoods() {
        CottonWeeks x = new CottonWeeks();
        Due.read(x, "from 0 bread 10 first 2 first 1;");
        Due.addHome(x, 5, 5, 0, 0, 0, 100, 20, 30, 100);
        Due.addHome(x, 5, 5, 0, 0, 0, 100, 20, 29, 100);
        Due.addHome(x, 5, 5, 0, 0, 0, 0, 20, 20, 100);
        Due.addHome(x, 5, 5, 0, 20, 0, 7, 7, 30, 7);
        Due.addHome(x, 5, 5, 0, 50, 0, 7, 7, 30, 7);
        x.step(1);
        Due.dueRow("the first two are enough", Due.house(x, 0), 5, 5, 0, 0, 0, 100, 0, 0, 100, 0, 0);
        Due.dueRow("then by numbers", Due.house(x, 1), 5, 5, 0, 99, 0, 0, 0, 0, 100, 0, 0);
        Due.dueRow("one is gone", Due.house(x, 2), 5, 5, 0, 90, 0, 0, 0, 0, 0, 0, 0);
        Due.dueRow("one is enough", Due.house(x, 3), 5, 5, 0, 0, 0, 7, 7, 0, 7, 0, 0);
        Due.dueRow("none needs to go", Due.house(x, 4), 5, 5, 0, 0, 0, 7, 7, 30, 7, 0, 0);
        CottonWeeks y = new CottonWeeks();
        Due.read(y, "from 1 first 3;");
        Due.addHome(y, 5, 1, 0, 0, 50, 50, 50, 50, 50);
        y.step(1);
        Due.dueRow("not yet first", Due.house(y, 0), 5, 1, 0, 0, 50, 0, 50, 50, 50, 0, 0);
        y.step(1);
        Due.dueRow("first", Due.house(y, 0), 5, 1, 0, 0, 50, 0, 50, 50, 0, 0, 0);
    }

    private static void hungers() {
        CottonWeeks x = new CottonWeeks();
        Due.addHome(x, 5, 1, 0, 10, 50, 10, 10, 10, 9);
        Due.addHome(x, 5, 1, 0, 10, 50, 10, 10, 10, 10);
        Due.addHome(x, 5, 1, 0, 10, 0, 0, 0, 0, 0);
        x.step(1);
        Due.dueRow("hungers", Due.house(x, 0), 5, 1, 0, 0, 50, 0, 0, 0, 0, 1, 0);
        Due.dueRow("does not", Due.house(x, 1), 5, 1, 0, 0, 50, 0, 0, 0, 0, 0, 0);
        x.step(3);
        Due.due("four times", x.house(0, 9), 4);
        Due.due("three times", x.house(1, 9), 3);
        Due.due("never", x.house(2, 9), 0);
        Due.due("kept", x.house(2, 3), 10);
    }

    private static void changesWithTheMill() {
        CottonWeeks x = new CottonWeeks();
        Due.read(x, "from 0 piece 0 1 relief 1 limit 9999;");
        Due.addHome(x, 0, 2, 2, 0, 0, 0, 0, 0, 0);
        Due.addHome(x, 1, 2, 2, 0, 0, 0, 0, 0, 0);
        x.step(1);
        Due.due("not there", x.house(0, 3), 2);
        x.mill(1, 1, 0, 0);
        x.stock(0, 0, 2);
        x.stuff(0, 0, 1);
        x.step(1);
        Due.due("there", x.house(0, 3), 122);
        Due.due("the other", x.house(1, 3), 4);
        x.step(2);
        Due.due("one week more, then it stands", x.house(0, 3), 122 + 120 + 2);
        Due.due("relief", x.house(0, 10), 4);
    }

    private static void refusesPaid() {
        CottonWeeks x = new CottonWeeks();
        Due.dueAll("paid BAD", Due.BAD, x.paid(-1, 0, 1, 0), x.paid(8, 0, 1, 0), x.paid(0, 0, 0, 0),
                x.paid(0, 0, 9, 0), x.paid(0, 0, 1, -1), x.paid(0, 0, 1, 2), x.paid(0, 0, 8, 9));
        Due.due("paid NULL", x.paid(0, -1, 1, 0), Due.NULL);
        Due.lay(x, 0, 1, 2, 0, 3, 4, 0);
        Due.dueAll("paid PLACE", Due.PLACE, x.paid(0, -1, 2, 0), x.paid(0, 1, 2, 0), x.paid(0, 0, 3, 0),
                x.paid(0, 5, 1, 0), x.paid(0, Integer.MAX_VALUE, 8, 0));
        int[] fine = {1000, 0, 0, 1000, 0, 0};
        for (int k = 0; k < 6; k++) {
            int[] low = fine.clone();
            low[k] = -1;
            Due.lay(x, 0, low);
            Due.due("item " + k + " below 0", x.paid(0, 0, 2, 0), Due.BAD);
            int[] high = fine.clone();
            high[k] = k == 2 || k == 5 ? 1 : 1001;
            Due.lay(x, 0, high);
            Due.due("item " + k + " too high", x.paid(0, 0, 2, 0), Due.BAD);
        }
        Due.lay(x, 0, fine);
        Due.due("fine", x.paid(0, 0, 2, 0), 1000);
    }

    private static void duePaid(CottonWeeks x, int n, int... want) {
        int[] got = new int[n + 1];
        for (int k = 0; k <= n; k++) {
            got[k] = x.paid(0, 0, n, k);
        }
        Due.dueRow("paid by " + n, got, want);
    }

    private static void pays() {
        CottonWeeks x = new CottonWeeks();
        Due.lay(x, 0, 7, 0);
        duePaid(x, 1, 0, 0);
        Due.lay(x, 0, 5, 0, 0, 10, 0, 0);
        duePaid(x, 2, 5, 0, 1);
        Due.lay(x, 0, 10, 0, 0, 10, 0, 0);
        duePaid(x, 2, 10, 0, 0);
        // 0 owes 1, 1 owes 2, 2 owes none: what 0 lacks comes to 1 a round later.
        Due.lay(x, 0, 4, 1, 0, 0, 10, 0, 0, 0, 10, 0, 0, 0);
        duePaid(x, 3, 4, 5, 0, 2);
        // 0 owes 3 to 1 and 7 to 2: of 5 paid 1 and 3 come, each cut.
        Due.lay(x, 0, 5, 0, 0, 0, 3, 7, 9, 0, 0, 9, 0, 0);
        Due.due("all of 0", x.paid(0, 0, 3, 0), 10);
        Due.lay(x, 0, 5, 0, 0, 0, 3, 7, 0, 0, 0, 0, 0, 0);
        duePaid(x, 3, 5, 0, 0, 1);
        Due.lay(x, 0, 5, 0, 0, 0, 0, 3, 7, 0, 0, 0, 0, 9, 0, 0, 0, 9, 0, 0, 0, 0);
        duePaid(x, 4, 5, 1, 3, 0, 2);
        // The same from a place in the midst of a SHEET.
        Due.lay(x, 0, 99, 99, 5, 0, 0, 10, 0, 0, 99);
        Due.due("from 2 on", x.paid(0, 2, 2, 0), 5);
        // A penny that is owed is paid on.
        Due.lay(x, 0, 1, 0, 0, 0, 1, 0, 0, 0, 1, 0, 0, 0);
        duePaid(x, 3, 1, 1, 0, 0);
        paysByEight();
    }

    /** 0 has a penny, and each owes 2 to the next, of the last 72 ITEMS of a full SHEET. */
    private static void paysByEight() {
        CottonWeeks x = new CottonWeeks();
        int[] items = new int[80];
        items[7] = -1;
        items[8] = 1;
        for (int one = 0; one < 7; one++) {
            items[16 + one * 8 + one + 1] = 2;
        }
        Due.lay(x, 0, items);
        int[] got = new int[9];
        for (int k = 0; k < 9; k++) {
            got[k] = x.paid(0, 8, 8, k);
        }
        Due.dueRow("by eight", got, 1, 1, 1, 1, 1, 1, 1, 0, 7);
        Due.due("beyond", x.paid(0, 9, 8, 0), Due.PLACE);
    }

    private static void paysInRounds() {
        CottonWeeks x = new CottonWeeks();
        // Each owes the other all, and one owes a third a penny: by cuts a penny goes a round.
        Due.lay(x, 0, 0, 0, 0, 0, 4, 1, 4, 0, 0, 0, 0, 0);
        // 5,4 | 4,4 | 4,3 | 3,3 | 3,2 | 2,2 | 2,1 | 1,1 | 1,0 | 0,0
        duePaid(x, 3, 0, 0, 0, 9);
        Due.lay(x, 0, 0, 0, 0, 0, 1000, 1, 1000, 0, 0, 0, 0, 0);
        duePaid(x, 3, 0, 0, 0, 2001);
    }
}
