import java.util.function.ToIntFunction;

/**
 * The order of the refusals, BAD, STATE, FULL, then the FINDINGS, of several the first in time; and that what is
 * refused, or found, changes nothing but status(): behind each refusal all that can be seen is as without it.
 */
public final class RefusalsTest {
    private static final int BYTES = 0, SHORTS = 1, INTS = 2;

    /** What is seen of a county that was refused nothing, by whether its rows are full, and by part. */
    private static final int[][][] UNREFUSED = new int[2][Seen.LOOKS][];

    public static void main(String[] args) {
        badAheadOfFull();
        badAheadOfFindings();
        fullAheadOfFindings();
        nullAheadOfPlace();
        nullAheadOfStore();
        storeAheadOfPlace();
        findingsAheadOfBadItems();
        stateIsNeverAnswered();
        lookUnrefused();
        badSheetsChangeNothing();
        badCountiesChangeNothing();
        badListsAndHomesChangeNothing();
        badThingsChangeNothing();
        fullChangesNothing();
        findingsChangeNothing();
        Due.end();
    }

    /** Something of each, and room for more of each; the latest FINDING is PLACE. */
    private static CottonWeeks county() {
        CottonWeeks x = new CottonWeeks();
        Due.lay(x, 0, 0, 3, 2, 90, 7, 11, 12, 13, 14, 1, 0, 50);
        x.sheet(1, SHORTS, 9);
        x.set(1, 0, 5);
        x.set(1, 1, 4);
        x.set(1, 8, 44);
        x.sheet(2, BYTES, 4);
        x.set(2, 1, 3);
        x.sheet(3, INTS, 0);
        Due.read(x, "from 0 piece 0 2 bread 3 relief 4 limit 60;from 2 first 2 first 0;from 5 bread 5;");
        Due.read(x, "from 100 bread 1;");
        Due.put(x, "from 3 limit 9");
        x.stuff(1, 0, 70);
        x.stuff(2, 1, 33);
        x.stuff(0, 2, 200);
        x.stuff(0, 4, 9);
        x.mill(10, 3, 100, 0);
        x.mill(5, 12, 50, 300);
        x.stock(0, 1, 30);
        x.stock(1, 2, 40);
        x.ship(1, 0, 25, 1);
        x.ship(4, 2, 35, 1);
        x.ship(4, 3, 45, 0);
        x.home(0, 0);
        x.home(1, 0);
        Due.addOneOfEach(x);
        x.news(1, 2, 0, 3);
        x.news(9, 0, 3, 30);
        x.step(3);
        x.ask(3, 0);
        x.set(0, 12, 1);
        return x;
    }

    /** The same with every row full. */
    private static CottonWeeks fullCounty() {
        CottonWeeks x = county();
        for (int k = 0; k < 30; k++) {
            x.mill(k + 1, 1 + k % 15, 0, 0);
            x.ship(10 + k, k % 4, 30, 1);
            x.home(k % 2, 0);
            x.thing(k % 2, k, Due.NONE);
            x.news(k % 10, k, k % 4, k);
        }
        x.lists();
        Due.read(x, "from 7 " + "limit 7 ".repeat(23) + ";");
        Due.put(x, "from 3 limit 9".repeat(28) + "        ");
        x.set(0, 12, 1);
        return x;
    }

    private static CottonWeeks countyBy(boolean full) {
        return full ? fullCounty() : county();
    }

    private static void badAheadOfFull() {
        Due.sentence("Refusals are answers, the first of these that fits: BAD, STATE, FULL");
        CottonWeeks x = fullCounty();
        Due.dueRow("all rows are full", new int[] {x.count(1), x.count(2), x.count(3), x.count(4), x.count(5),
            x.count(8), x.ship(0, 0, 1, 1), x.mill(1, 1, 0, 0), x.feed(0, 1), x.home(0, 0), x.thing(0, 0, Due.NONE),
            x.news(0, 0, 0, 0)}, 6, 12, 30, 30, 16, 400, Due.FULL, Due.FULL, Due.FULL, Due.FULL, Due.FULL, Due.FULL);
        Due.dueAll("ship()", Due.BAD, x.ship(100, 0, 1, 1), x.ship(0, 4, 1, 1), x.ship(0, 0, 0, 1), x.ship(0, 0, 1, 2));
        Due.dueAll("mill()", Due.BAD, x.mill(0, 1, 0, 0), x.mill(1, 0, 0, 0), x.mill(1, 1, -1, 0), x.mill(1, 1, 0, -1));
        Due.dueAll("feed()", Due.BAD, x.feed(0, 0), x.feed(0, 9));
        Due.dueAll("home()", Due.BAD, x.home(-1, 0), x.home(8, 0));
        Due.dueAll("thing()", Due.BAD, x.thing(6, 0, Due.NONE), x.thing(0, 1000, Due.NONE), x.thing(0, 0, 0),
                x.thing(2, 0, 0));
        Due.dueAll("news()", Due.BAD, x.news(10, 0, 0, 0), x.news(0, 100, 0, 0), x.news(0, 0, 4, 0),
                x.news(0, 0, 0, 31));
    }

    private static void badAheadOfFindings() {
        Due.sentence("Refusals are answers, the first of these that fits: BAD, STATE, FULL, then FINDINGS");
        CottonWeeks x = county();
        Due.dueAll("ahead of SIZE", Due.BAD, x.sheet(-1, 0, -1), x.sheet(8, 0, -1), x.sheet(0, -1, -1),
                x.sheet(0, 3, -1));
        Due.dueAll("copy(), ahead of NULL, STORE and PLACE", Due.BAD, x.copy(8, 0, 7, 0, 0), x.copy(7, 0, 8, 0, 0),
                x.copy(-1, 0, 7, 0, 0), x.copy(8, 0, 1, -1, 0), x.copy(1, -1, 8, 0, 0));
        Due.dueAll("set(), home(), ahead of PLACE", Due.BAD, x.set(8, -1, 0), x.home(8, -1));
        Due.dueAll("paid(), ahead of NULL", Due.BAD, x.paid(7, 0, 0, 0), x.paid(7, 0, 9, 0), x.paid(7, 0, 2, 3),
                x.paid(7, 0, 2, -1));
        Due.dueAll("paid(), ahead of PLACE", Due.BAD, x.paid(0, -1, 0, 0), x.paid(0, 99, 9, 0), x.paid(0, 99, 1, 2));
        Due.dueAll("works(), ahead of NULL", Due.BAD, x.works(7, 0, 0, 0, 0), x.works(7, 0, 11, 0, 0),
                x.works(7, 0, 1, -1, 0), x.works(7, 0, 1, 501, 0), x.works(7, 0, 1, 0, -1), x.works(7, 0, 1, 0, 3));
        Due.dueAll("works(), ahead of PLACE", Due.BAD, x.works(0, -1, 0, 0, 0), x.works(0, 99, 1, 501, 0),
                x.works(0, 99, 1, 0, 3));
        Due.dueAll("as(), ahead of KIND", Due.BAD, x.as(6, 5), x.as(0, 6), x.as(-1, 1), x.as(0, -1));
        Due.due("status()", x.status(), 2);
    }

    private static void fullAheadOfFindings() {
        Due.sentence("home(): BAD: SHEET; FULL: 12; NULL; PLACE; then BAD: an ITEM");
        CottonWeeks x = fullCounty();
        Due.dueAll("FULL", Due.FULL, x.home(0, 0), x.home(7, 0), x.home(0, -1), x.home(0, 4), x.home(0, 1),
                x.home(3, 0));
        Due.due("status()", x.status(), 2);
    }

    private static void nullAheadOfPlace() {
        Due.sentence("FINDINGS, of several the first in time: NULL, PLACE");
        CottonWeeks x = county();
        Due.dueAll("NULL", Due.NULL, x.set(7, -1, 0), x.set(7, 80, 0), x.copy(7, -1, 0, 0, 1), x.copy(0, 0, 7, -1, 1),
                x.copy(0, -1, 7, 0, 1), x.copy(7, 0, 0, 99, 1), x.copy(7, 0, 7, 0, -1), x.home(7, -1),
                x.home(7, 80), x.paid(7, -1, 1, 0), x.paid(7, 80, 8, 0), x.works(7, -1, 1, 0, 0),
                x.works(7, 80, 10, 0, 0));
        Due.due("status()", x.status(), 1);
    }

    /** A SHEET that is missing has the LANE of none, whatever it had before. */
    private static void nullAheadOfStore() {
        Due.sentence("BAD: SHEETS; NULL; STORE");
        CottonWeeks x = county();
        x.drop(0);
        for (int s = 1; s < 4; s++) {
            Due.dueAll("NULL", Due.NULL, x.copy(0, 0, s, 0, 0), x.copy(s, 0, 0, 0, 0), x.copy(7, 0, s, 0, 0),
                    x.copy(s, 0, 7, 0, 0));
        }
        Due.due("both are missing", x.copy(0, 0, 7, 0, 0), Due.NULL);
    }

    private static void storeAheadOfPlace() {
        Due.sentence("NULL; STORE; PLACE (i, j, n below 0, or beyond an end)");
        CottonWeeks x = county();
        Due.dueAll("STORE", Due.STORE, x.copy(0, -1, 1, 0, 1), x.copy(0, 0, 1, -1, 1), x.copy(0, 0, 1, 0, -1),
                x.copy(0, 99, 1, 0, 1), x.copy(0, 0, 1, 99, 1), x.copy(0, 0, 2, 0, 99), x.copy(2, 4, 1, 9, 1));
        Due.due("status()", x.status(), 5);
    }

    private static void findingsAheadOfBadItems() {
        Due.sentence("NULL; PLACE; then BAD: an ITEM");
        CottonWeeks x = new CottonWeeks();
        x.sheet(0, INTS, 8);
        for (int i = 0; i < 8; i++) {
            x.set(0, i, -1);
        }
        Due.dueAll("PLACE", Due.PLACE, x.home(0, 0), x.home(0, -1), x.paid(0, 7, 1, 0), x.paid(0, 3, 2, 0),
                x.paid(0, 0, 3, 0), x.works(0, 7, 1, 0, 0), x.works(0, 1, 4, 0, 0), x.works(0, 0, 5, 0, 0));
        Due.due("status()", x.status(), 2);
        Due.dueAll("BAD", Due.BAD, x.paid(0, 6, 1, 0), x.paid(0, 2, 2, 0), x.works(0, 6, 1, 0, 0),
                x.works(0, 0, 4, 0, 0));
        Due.due("status() is of the call ahead", x.status(), 2);
    }

    /** No promise tells of a STATE in which a call is refused; so none is. */
    private static void stateIsNeverAnswered() {
        Due.sentence("STATE (as told)");
        CottonWeeks x = fullCounty();
        for (int k = 0; k < 5; k++) {
            x.step(20);
        }
        int[] got = {x.step(1), x.mill(1, 1, 0, 0), x.ship(0, 0, 1, 1), x.lists(), x.stock(0, 0, 1), x.ask(0, 0),
            x.news(0, 0, 0, 0), x.home(0, 0), x.drop(7), x.stuff(0, 0, 1)};
        for (int k = 0; k < got.length; k++) {
            Due.due("call " + k + " behind the last WEEK", got[k] == CottonWeeks.STATE ? 1 : 0, 0);
        }
    }

    private static void lookUnrefused() {
        for (int part = 0; part < Seen.LOOKS; part++) {
            UNREFUSED[0][part] = Seen.look(county(), part);
            UNREFUSED[1][part] = Seen.look(fullCounty(), part);
        }
    }

    /** Whatever part is looked at: behind the call all is as without it, but for status() behind a FINDING. */
    private static void dueUnchanged(boolean full, String call, int answer, ToIntFunction<CottonWeeks> refused) {
        for (int part = 0; part < Seen.LOOKS; part++) {
            CottonWeeks x = countyBy(full);
            Due.due(call, refused.applyAsInt(x), answer);
            int[] want = UNREFUSED[full ? 1 : 0][part].clone();
            boolean found = answer >= Due.STORE && answer <= Due.NULL;
            want[0] = found ? -1000010 - answer : want[0];
            Due.dueRow("seen behind " + call, Seen.look(x, part), want);
        }
    }

    private static void bad(String call, ToIntFunction<CottonWeeks> refused) {
        dueUnchanged(false, call, Due.BAD, refused);
        dueUnchanged(true, call, Due.BAD, refused);
    }

    private static void full(String call, ToIntFunction<CottonWeeks> refused) {
        dueUnchanged(true, call, Due.FULL, refused);
    }

    private static void found(String call, int finding, ToIntFunction<CottonWeeks> refused) {
        dueUnchanged(false, call, finding, refused);
    }

    private static void badSheetsChangeNothing() {
        Due.sentence("What is refused, or found, changes nothing but status() (BAD)");
        bad("sheet(8, 0, 1)", x -> x.sheet(8, 0, 1));
        bad("sheet(0, 3, 1)", x -> x.sheet(0, 3, 1));
        bad("sheet(0, 0, 81)", x -> x.sheet(0, 0, 81));
        bad("sheet(4, -1, -1)", x -> x.sheet(4, -1, -1));
        bad("set(8, 0, 1)", x -> x.set(8, 0, 1));
        bad("copy(8, 0, 0, 0, 1)", x -> x.copy(8, 0, 0, 0, 1));
        bad("copy(0, 0, 8, 0, 1)", x -> x.copy(0, 0, 8, 0, 1));
        bad("drop(-1)", x -> x.drop(-1));
        bad("drop(8)", x -> x.drop(8));
        bad("home(8, 0)", x -> x.home(8, 0));
        bad("paid(8, 0, 1, 0)", x -> x.paid(8, 0, 1, 0));
        bad("paid(0, 0, 9, 0)", x -> x.paid(0, 0, 9, 0));
        bad("paid(0, 9, 1, 2)", x -> x.paid(0, 9, 1, 2));
        bad("paid(0, 0, 1, 0) by an ITEM", x -> x.paid(0, 0, 1, 0));
        bad("works(8, 0, 1, 0, 0)", x -> x.works(8, 0, 1, 0, 0));
        bad("works(0, 0, 1, 501, 0)", x -> x.works(0, 0, 1, 501, 0));
        bad("works(0, 0, 1, 0, 0) by an ITEM", x -> x.works(0, 0, 1, 0, 0));
    }

    private static void badCountiesChangeNothing() {
        Due.sentence("What is refused, or found, changes nothing but status() (BAD)");
        bad("stuff(4, 0, 1)", x -> x.stuff(4, 0, 1));
        bad("stuff(0, 0, 1001)", x -> x.stuff(0, 0, 1001));
        bad("stuff(0, 1, 100)", x -> x.stuff(0, 1, 100));
        bad("stuff(0, 2, 10000)", x -> x.stuff(0, 2, 10000));
        bad("stuff(0, 3, 5001)", x -> x.stuff(0, 3, 5001));
        bad("stuff(0, 4, 101)", x -> x.stuff(0, 4, 101));
        bad("stuff(0, 5, 1)", x -> x.stuff(0, 5, 1));
        bad("ship(100, 0, 1, 1)", x -> x.ship(100, 0, 1, 1));
        bad("ship(50, 0, 501, 1)", x -> x.ship(50, 0, 501, 1));
        bad("mill(51, 1, 0, 0)", x -> x.mill(51, 1, 0, 0));
        bad("mill(1, 16, 0, 0)", x -> x.mill(1, 16, 0, 0));
        bad("stock(6, 0, 1)", x -> x.stock(6, 0, 1));
        bad("stock(0, 4, 1)", x -> x.stock(0, 4, 1));
        bad("stock(0, 0, 10000)", x -> x.stock(0, 0, 10000));
        bad("told(6, 0)", x -> x.told(6, 0));
        bad("told(0, 10)", x -> x.told(0, 10));
        bad("step(0)", x -> x.step(0));
        bad("step(21)", x -> x.step(21));
        bad("ran(6, 0)", x -> x.ran(6, 0));
        bad("ran(0, 100)", x -> x.ran(0, 100));
        bad("price(4, 0)", x -> x.price(4, 0));
        bad("price(0, 2)", x -> x.price(0, 2));
    }

    private static void badListsAndHomesChangeNothing() {
        Due.sentence("What is refused, or found, changes nothing but status() (BAD)");
        bad("feed(0, 0)", x -> x.feed(0, 0));
        bad("feed(0, 9)", x -> x.feed(0, 9));
        bad("holds(100, 0)", x -> x.holds(100, 0));
        bad("holds(0, 8)", x -> x.holds(0, 8));
        bad("first(100, 0)", x -> x.first(100, 0));
        bad("house(12, 0)", x -> x.house(12, 0));
        bad("house(0, 11)", x -> x.house(0, 11));
        dueUnchanged(false, "home(0, 1) by an ITEM", Due.BAD, x -> x.home(0, 1));
    }

    private static void badThingsChangeNothing() {
        Due.sentence("What is refused, or found, changes nothing but status() (BAD)");
        bad("thing(6, 0, NONE)", x -> x.thing(6, 0, Due.NONE));
        bad("thing(0, 1000, NONE)", x -> x.thing(0, 1000, Due.NONE));
        bad("thing(2, 0, 0)", x -> x.thing(2, 0, 0));
        bad("thing(0, 0, 0)", x -> x.thing(0, 0, 0));
        bad("news(10, 0, 0, 0)", x -> x.news(10, 0, 0, 0));
        bad("news(0, 0, 0, 31)", x -> x.news(0, 0, 0, 31));
        bad("known(4, 0)", x -> x.known(4, 0));
        bad("known(0, 100)", x -> x.known(0, 100));
        bad("kind(16)", x -> x.kind(16));
        bad("as(16, 0)", x -> x.as(16, 0));
        bad("as(0, 6)", x -> x.as(0, 6));
        bad("ask(16, 0)", x -> x.ask(16, 0));
        bad("ask(0, 2)", x -> x.ask(0, 2));
        bad("count(10)", x -> x.count(10));
        bad("count(-1)", x -> x.count(-1));
    }

    private static void fullChangesNothing() {
        Due.sentence("What is refused, or found, changes nothing but status() (FULL)");
        full("ship(50, 1, 500, 1)", x -> x.ship(50, 1, 500, 1));
        full("mill(50, 15, 0, 1)", x -> x.mill(50, 15, 0, 1));
        full("feed(0, 1)", x -> x.feed(0, 1));
        full("feed(0, 8)", x -> x.feed(0, 8));
        full("home(0, 0)", x -> x.home(0, 0));
        full("home(7, 0)", x -> x.home(7, 0));
        full("thing(5, 9, NONE)", x -> x.thing(5, 9, Due.NONE));
        full("news(9, 0, 0, 0)", x -> x.news(9, 0, 0, 0));
    }

    private static void findingsChangeNothing() {
        Due.sentence("What is refused, or found, changes nothing but status() (FINDINGS)");
        found("sheet(0, 0, -1)", Due.SIZE, x -> x.sheet(0, BYTES, -1));
        found("sheet(7, 2, -1)", Due.SIZE, x -> x.sheet(7, INTS, -1));
        found("set(7, 0, 1)", Due.NULL, x -> x.set(7, 0, 1));
        found("set(0, -1, 1)", Due.PLACE, x -> x.set(0, -1, 1));
        found("set(2, 4, 1)", Due.PLACE, x -> x.set(2, 4, 1));
        found("copy(0, 0, 7, 0, 1)", Due.NULL, x -> x.copy(0, 0, 7, 0, 1));
        found("copy(7, 0, 0, 0, 1)", Due.NULL, x -> x.copy(7, 0, 0, 0, 1));
        found("copy(0, 0, 1, 0, 1)", Due.STORE, x -> x.copy(0, 0, 1, 0, 1));
        found("copy(0, 0, 0, 1, 12)", Due.PLACE, x -> x.copy(0, 0, 0, 1, 12));
        found("copy(0, 0, 3, 0, 1)", Due.PLACE, x -> x.copy(0, 0, 3, 0, 1));
        found("drop(7)", Due.NULL, x -> x.drop(7));
        found("home(7, 0)", Due.NULL, x -> x.home(7, 0));
        found("home(0, 4)", Due.PLACE, x -> x.home(0, 4));
        found("paid(7, 0, 1, 0)", Due.NULL, x -> x.paid(7, 0, 1, 0));
        found("paid(0, 11, 1, 0)", Due.PLACE, x -> x.paid(0, 11, 1, 0));
        found("works(7, 0, 1, 0, 0)", Due.NULL, x -> x.works(7, 0, 1, 0, 0));
        found("works(0, 11, 1, 0, 0)", Due.PLACE, x -> x.works(0, 11, 1, 0, 0));
        found("as(0, 1)", Due.KIND, x -> x.as(0, 1));
        found("as(5, 3)", Due.KIND, x -> x.as(5, 3));
    }
}
