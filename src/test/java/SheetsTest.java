/** Promises 1 to 5 and 31: SHEETS and the status of calls with them. */
public final class SheetsTest {
    public static void main(String[] args) {
        atFirst();
        makes();
        sets();
        copies();
        drops();
        tellsStatus();
        Due.end();
    }

    private static void atFirst() {
        CottonWeeks x = new CottonWeeks();
        for (int what = 0; what <= 9; what++) {
            Due.due("new: count " + what, x.count(what), 0);
        }
        for (int s = 0; s < 8; s++) {
            Due.due("new: a sheet is missing", x.drop(s), Due.NULL);
        }
        int[] breaks = {0, 10, 20, 30};
        for (int sort = 0; sort < 4; sort++) {
            Due.due("new: price now", x.price(sort, 0), 1);
            Due.due("new: price of a step", x.price(sort, 1), Due.NONE);
            Due.due("new: base", x.stuff(sort, 0, 1), 100);
            Due.due("new: breaks", x.stuff(sort, 1, 0), breaks[sort]);
            Due.due("new: port", x.stuff(sort, 2, 0), 0);
        }
        Due.due("new: cloth", x.stuff(0, 3, 0), 500);
        Due.due("new: fear", x.stuff(0, 4, 0), 0);
        Due.due("new: fault", x.fault(), 0);
        Due.due("new: trace", x.trace(0), Due.NONE);
        Due.due("new: status", new CottonWeeks().status(), 0);
        for (int what = 0; what <= 7; what++) {
            Due.due("new: holds " + what, x.holds(99, what), 0);
        }
    }

    private static void makes() {
        CottonWeeks x = new CottonWeeks();
        Due.dueAll("sheet BAD", Due.BAD, x.sheet(-1, 0, 1), x.sheet(8, 0, 1), x.sheet(0, -1, 1), x.sheet(0, 3, 1),
                x.sheet(0, 0, 81), x.sheet(0, 0, Integer.MAX_VALUE), x.sheet(8, 0, -1), x.sheet(0, 3, -1));
        Due.due("sheet SIZE", x.sheet(0, 0, -1), Due.SIZE);
        Due.due("sheet SIZE", x.sheet(0, 0, Integer.MIN_VALUE), Due.SIZE);
        Due.due("none made", x.count(0), 0);
        Due.due("sheet of 80", x.sheet(7, 2, 80), 80);
        Due.due("sheet of 0", x.sheet(0, 0, 0), 0);
        Due.due("two", x.count(0), 2);
        Due.due("place of none", x.set(0, 0, 1), Due.PLACE);
        Due.due("last place", x.set(7, 79, 5), 5);
        Due.due("beyond", x.set(7, 80, 5), Due.PLACE);
        Due.due("a found size leaves it", x.sheet(7, 2, -1), Due.SIZE);
        Due.due("it is there", x.copy(7, 79, 7, 0, 1), 1);
        Due.due("made anew", x.sheet(7, 2, 3), 3);
        Due.due("still two", x.count(0), 2);
        Due.due("shorter", x.set(7, 3, 5), Due.PLACE);
        // A LOAN buys nothing of cost 0: an ITEM that is 0 is seen by BAD.
        Due.due("all 0 again", x.works(7, 0, 1, 0, 0), Due.BAD);
    }

    private static void sets() {
        CottonWeeks x = new CottonWeeks();
        Due.dueAll("set BAD", Due.BAD, x.set(-1, 0, 0), x.set(8, 0, 0));
        Due.due("set NULL", x.set(0, -1, 0), Due.NULL);
        x.sheet(0, 0, 2);
        x.sheet(1, 1, 2);
        x.sheet(2, 2, 2);
        Due.dueAll("set PLACE", Due.PLACE, x.set(0, -1, 0), x.set(0, 2, 0), x.set(1, Integer.MAX_VALUE, 0),
                x.set(2, Integer.MIN_VALUE, 0));
        Due.due("byte", x.set(0, 0, 127), 127);
        Due.due("byte", x.set(0, 0, 128), -128);
        Due.due("byte", x.set(0, 0, 511), -1);
        Due.due("byte", x.set(0, 1, 256), 0);
        Due.due("short", x.set(1, 0, 32767), 32767);
        Due.due("short", x.set(1, 0, 32768), -32768);
        Due.due("short", x.set(1, 1, 70000), 4464);
        Due.due("int", x.set(2, 0, 70000), 70000);
        Due.due("int", x.set(2, 1, Integer.MIN_VALUE), Integer.MIN_VALUE);
        Due.due("int that looks refused", x.set(2, 1, Due.BAD), Due.BAD);
        Due.due("is not", x.status(), 0);
    }

    private static void copies() {
        CottonWeeks x = new CottonWeeks();
        Due.dueAll("copy BAD", Due.BAD, x.copy(-1, 0, 0, 0, 0), x.copy(8, 0, 0, 0, 0), x.copy(0, 0, -1, 0, 0),
                x.copy(0, 0, 8, 0, 0));
        Due.lay(x, 0, 1, 2, 3, 4, 5, 6);
        Due.dueAll("copy NULL", Due.NULL, x.copy(0, 0, 1, 0, 1), x.copy(1, 0, 0, 0, 1), x.copy(1, -1, 2, 9, 1));
        x.sheet(1, 1, 4);
        Due.dueAll("copy STORE", Due.STORE, x.copy(0, 0, 1, 0, 1), x.copy(1, 0, 0, 0, 0), x.copy(0, -1, 1, 0, 99));
        x.sheet(1, 2, 4);
        Due.dueAll("copy PLACE", Due.PLACE, x.copy(0, -1, 1, 0, 1), x.copy(0, 0, 1, -1, 1), x.copy(0, 0, 1, 0, -1),
                x.copy(0, 6, 1, 0, 1), x.copy(0, 0, 1, 4, 1), x.copy(0, 3, 1, 0, 4), x.copy(0, 0, 1, 1, 4),
                x.copy(0, Integer.MAX_VALUE, 1, 0, Integer.MAX_VALUE), x.copy(0, 7, 1, 0, 0));
        Due.due("none at the ends", x.copy(0, 6, 1, 4, 0), 0);
        Due.due("copy", x.copy(0, 2, 1, 0, 4), 4);
        dueItems(x, 1, 3, 4, 5, 6);
        Due.due("copy onto itself, up", x.copy(0, 0, 0, 1, 5), 5);
        dueItems(x, 0, 1, 1, 2, 3, 4, 5);
        Due.due("copy onto itself, down", x.copy(0, 2, 0, 0, 4), 4);
        dueItems(x, 0, 2, 3, 4, 5, 4, 5);
    }

    /** Each ITEM from 1 to 100 is seen as the cost of WORKS with an ample LOAN; its neighbour stands as the gain. */
    private static void dueItems(CottonWeeks x, int sheet, int... items) {
        for (int i = 0; i + 1 < items.length; i++) {
            Due.due("item " + i, x.works(sheet, i, 1, 500, 1), items[i]);
            Due.due("item " + (i + 1), x.works(sheet, i, 1, 500, 2), items[i + 1]);
        }
    }

    private static void drops() {
        CottonWeeks x = new CottonWeeks();
        Due.dueAll("drop BAD", Due.BAD, x.drop(-1), x.drop(8));
        Due.due("drop NULL", x.drop(3), Due.NULL);
        x.sheet(3, 1, 17);
        Due.due("drop", x.drop(3), 17);
        Due.due("gone", x.drop(3), Due.NULL);
        Due.due("gone", x.set(3, 0, 0), Due.NULL);
        Due.due("gone", x.count(0), 0);
        x.sheet(3, 1, 0);
        Due.due("drop of none", x.drop(3), 0);
    }

    private static void tellsStatus() {
        CottonWeeks x = new CottonWeeks();
        dueStatus(x, x.sheet(0, 0, -1), Due.SIZE, 4);
        dueStatus(x, x.sheet(0, 0, 99), Due.BAD, 4);
        dueStatus(x, x.set(0, 0, 0), Due.NULL, 1);
        dueStatus(x, x.set(9, 0, 0), Due.BAD, 1);
        dueStatus(x, x.sheet(0, 0, 4), 4, 0);
        dueStatus(x, x.set(0, 4, 0), Due.PLACE, 2);
        dueStatus(x, x.count(0), 1, 2);
        dueStatus(x, x.ship(0, 9, 1, 1), Due.BAD, 2);
        dueStatus(x, x.set(0, 0, 7), 7, 0);
        dueStatus(x, x.drop(1), Due.NULL, 1);
        dueStatus(x, x.drop(0), 4, 0);
        dueStatus(x, x.copy(0, 0, 0, 0, 0), Due.NULL, 1);
        x.sheet(0, 0, 4);
        x.sheet(1, 1, 80);
        dueStatus(x, x.copy(0, 0, 1, 0, 0), Due.STORE, 5);
        dueStatus(x, x.copy(0, 0, 0, 0, 1), 1, 0);
        dueStatus(x, x.home(2, 0), Due.NULL, 1);
        dueStatus(x, x.home(0, 0), Due.PLACE, 2);
        dueStatus(x, x.home(1, 0), Due.BAD, 2);
        dueStatus(x, x.paid(1, 0, 1, 0), 0, 0);
        dueStatus(x, x.paid(1, 79, 1, 0), Due.PLACE, 2);
        x.set(1, 1, 9);
        dueStatus(x, x.works(2, 0, 1, 0, 0), Due.NULL, 1);
        dueStatus(x, x.paid(1, 0, 1, 0), Due.BAD, 1);
        dueStatus(x, x.works(1, 79, 1, 0, 0), Due.PLACE, 2);
        dueStatus(x, x.works(1, 0, 1, 0, 0), Due.BAD, 2);
        dueStatus(x, x.works(1, 1, 1, 0, 0), 0, 0);
        x.thing(0, 5, Due.NONE);
        dueStatus(x, x.as(0, 1), Due.KIND, 3);
        dueStatus(x, x.as(1, 1), Due.BAD, 3);
        dueStatus(x, x.kind(0), 0, 3);
        dueStatus(x, x.as(0, 0), 5, 0);
        x.set(1, 80, 0);
        dueStatus(x, x.home(1, 10), Due.BAD, 2);
        dueStatus(x, x.home(1, 0), 0, 0);
        for (int h = 1; h < 12; h++) {
            x.home(1, 0);
        }
        x.set(1, 80, 0);
        dueStatus(x, x.home(1, 0), Due.FULL, 2);
        dueStatus(x, x.home(2, 0), Due.FULL, 2);
        dueStatus(x, x.home(8, 0), Due.BAD, 2);
        dueStatus(x, x.status(), 2, 2);
    }

    private static void dueStatus(CottonWeeks x, int got, int want, int status) {
        Due.due("answer", got, want);
        Due.due("status after " + want, x.status(), status);
    }
}
