/** SHEETS at their ends, promises 1 to 5 and 31: a method for each sentence that names one. */
public final class SheetEdgesTest {
    private static final int BYTES = 0, SHORTS = 1, INTS = 2;

    public static void main(String[] args) {
        eightSheets();
        missingAtFirst();
        threeLanes();
        upToEightyItems();
        fewerThanNone();
        itemsAreNoughtAtFirst();
        takesThePlaceOfWhatIsThere();
        lowestBitsOfBytes();
        lowestBitsOfShorts();
        lowestBitsOfInts();
        noSuchPlace();
        aFoundSetChangesNothing();
        copiesFullRows();
        copiesNone();
        copiesAsTheyWereAhead();
        copyFromBelowOrBeyond();
        copyToBelowOrBeyond();
        copyOfFewerThanNone();
        copyOfSheetsOfTwoLanes();
        aFoundCopyChangesNothing();
        dropTellsHowMany();
        droppedIsMissing();
        statusOfEachFinding();
        statusOfCallsWithoutSheets();
        statusBehindRefusals();
        statusOfOneWithoutFinding();
        Due.end();
    }

    /** SHEETS 0 to 7 of ints: ten times 1, then 0. So nine make a HOME, two WORKS, and the last two one who owes. */
    private static CottonWeeks allLaid() {
        CottonWeeks x = new CottonWeeks();
        Due.lay(x, 0, 1, 1, 1, 1, 1, 1, 1, 1, 1, 1, 0);
        for (int s = 1; s < 8; s++) {
            x.sheet(s, INTS, 11);
            x.copy(0, 0, s, 0, 11);
        }
        return x;
    }

    /** An ITEM from 0 to 100, seen behind a cost of 1 by way of SHEET 7, which it takes for this. */
    private static int item(CottonWeeks x, int sheet, int lane, int i) {
        x.sheet(7, lane, 2);
        x.set(7, 0, 1);
        x.copy(sheet, i, 7, 1, 1);
        return x.works(7, 0, 1, 1, 2);
    }

    private static void dueItems(CottonWeeks x, int sheet, int... items) {
        for (int i = 0; i < items.length; i++) {
            Due.due("ITEM " + i, item(x, sheet, INTS, i), items[i]);
        }
    }

    private static void eightSheets() {
        Due.sentence("SHEETS 0 .. 7");
        Due.range("sheet()", 0, 5, 7, 5, s -> allLaid().sheet(s, BYTES, 5));
        Due.range("set()", 0, 9, 7, 9, s -> allLaid().set(s, 10, 9));
        Due.range("copy() of a", 0, 3, 7, 3, s -> allLaid().copy(s, 0, 0, 0, 3));
        Due.range("copy() of b", 0, 3, 7, 3, s -> allLaid().copy(0, 0, s, 0, 3));
        Due.range("drop()", 0, 11, 7, 11, s -> allLaid().drop(s));
        Due.range("home()", 0, 0, 7, 0, s -> allLaid().home(s, 0));
        Due.range("paid()", 0, 0, 7, 0, s -> allLaid().paid(s, 9, 1, 0));
        Due.range("works()", 0, 1, 7, 1, s -> allLaid().works(s, 0, 1, 500, 1));
        Due.due("count() of SHEETS, all laid", allLaid().count(0), 8);
    }

    private static void missingAtFirst() {
        Due.sentence("SHEETS 0 .. 7 are missing (at first)");
        for (int s = 0; s < 8; s++) {
            CottonWeeks x = new CottonWeeks();
            int other = (s + 1) % 8;
            x.sheet(other, INTS, 80);
            Due.dueAll("NULL of SHEET " + s, Due.NULL, x.set(s, 0, 0), x.copy(s, 0, other, 0, 0),
                    x.copy(other, 0, s, 0, 0), x.copy(s, 0, s, 0, 0), x.drop(s), x.home(s, 0), x.paid(s, 0, 1, 0),
                    x.works(s, 0, 1, 0, 0));
            Due.due("status()", x.status(), 1);
            Due.due("count() of SHEETS", x.count(0), 1);
        }
    }

    private static void threeLanes() {
        Due.sentence("a LANE (0 bytes, 1 shorts, 2 ints)");
        Due.range("sheet() of a LANE", BYTES, 4, INTS, 4, lane -> new CottonWeeks().sheet(0, lane, 4));
        int[] becomes = {-96, -31072, 100000};
        for (int lane = BYTES; lane <= INTS; lane++) {
            CottonWeeks x = new CottonWeeks();
            x.sheet(0, lane, 1);
            Due.due("set() in LANE " + lane, x.set(0, 0, 100000), becomes[lane]);
        }
    }

    private static void upToEightyItems() {
        Due.sentence("0 to 80 ITEMS");
        for (int lane = BYTES; lane <= INTS; lane++) {
            CottonWeeks x = new CottonWeeks();
            Due.due("sheet() of 0", x.sheet(0, lane, 0), 0);
            Due.due("it is there", x.count(0), 1);
            Due.due("its first place", x.set(0, 0, 1), Due.PLACE);
            Due.due("sheet() of 1", x.sheet(0, lane, 1), 1);
            Due.due("its last place", x.set(0, 0, 1), 1);
            Due.due("beyond it", x.set(0, 1, 1), Due.PLACE);
            Due.due("sheet() of 80", x.sheet(0, lane, 80), 80);
            Due.due("its last place", x.set(0, 79, 1), 1);
            Due.due("beyond it", x.set(0, 80, 1), Due.PLACE);
            Due.dueAll("sheet() above 80", Due.BAD, x.sheet(0, lane, 81), x.sheet(0, lane, Integer.MAX_VALUE));
            Due.due("it has 80 still", x.drop(0), 80);
        }
    }

    private static void fewerThanNone() {
        Due.sentence("SIZE (fewer than none)");
        CottonWeeks x = new CottonWeeks();
        Due.dueAll("sheet() below 0", Due.SIZE, x.sheet(0, BYTES, -1), x.sheet(7, INTS, Integer.MIN_VALUE));
        Due.due("status()", x.status(), 4);
        Due.due("none is laid", x.count(0), 0);
        Due.lay(x, 3, 7, 8, 9);
        Due.due("sheet() below 0, of one that is there", x.sheet(3, BYTES, -1), Due.SIZE);
        dueItems(x, 3, 7, 8, 9);
        Due.due("its LANE is as it was", x.set(3, 0, 100000), 100000);
        Due.due("it has its ITEMS", x.drop(3), 3);
    }

    private static void itemsAreNoughtAtFirst() {
        Due.sentence("ITEMS, 0 at first");
        for (int lane = BYTES; lane <= INTS; lane++) {
            CottonWeeks x = new CottonWeeks();
            x.sheet(0, lane, 80);
            for (int i = 0; i < 80; i++) {
                Due.due("ITEM " + i + " of LANE " + lane, item(x, 0, lane, i), 0);
            }
        }
    }

    private static void takesThePlaceOfWhatIsThere() {
        Due.sentence("A SHEET of a LANE with n ITEMS, in place of what is there");
        CottonWeeks x = new CottonWeeks();
        Due.lay(x, 0, 1, 2, 3, 4);
        Due.due("the same again", x.sheet(0, INTS, 4), 4);
        dueItems(x, 0, 0, 0, 0, 0);
        Due.lay(x, 0, 1, 2, 3, 4);
        Due.due("shorter", x.sheet(0, INTS, 2), 2);
        Due.due("beyond it", x.set(0, 2, 1), Due.PLACE);
        Due.due("longer again", x.sheet(0, INTS, 5), 5);
        dueItems(x, 0, 0, 0, 0, 0, 0);
        Due.lay(x, 0, 1, 2, 3, 4);
        Due.due("none", x.sheet(0, INTS, 0), 0);
        Due.due("of another LANE", x.sheet(0, BYTES, 4), 4);
        for (int i = 0; i < 4; i++) {
            Due.due("ITEM " + i, item(x, 0, BYTES, i), 0);
        }
        Due.due("a byte", x.set(0, 0, 256), 0);
        Due.due("they are two, with SHEET 7", x.count(0), 2);
    }

    private static void dueBits(int lane, int... values) {
        CottonWeeks x = new CottonWeeks();
        x.sheet(0, lane, 80);
        for (int k = 0; k < values.length; k += 2) {
            Due.due("set() of " + values[k], x.set(0, k, values[k]), values[k + 1]);
        }
    }

    private static void lowestBitsOfBytes() {
        Due.sentence("ITEM i becomes v, its lowest bits, as many as the LANE has (8)");
        dueBits(BYTES, 0, 0, 127, 127, 128, -128, 129, -127, 255, -1, 256, 0, 383, 127, 384, -128, -1, -1, -128, -128,
                -129, 127, -256, 0, -257, -1, Integer.MAX_VALUE, -1, Integer.MIN_VALUE, 0, 0x12345680, -128);
    }

    private static void lowestBitsOfShorts() {
        Due.sentence("ITEM i becomes v, its lowest bits, as many as the LANE has (16)");
        dueBits(SHORTS, 128, 128, 256, 256, 32767, 32767, 32768, -32768, 65535, -1, 65536, 0, 98303, 32767, -1, -1,
                -32768, -32768, -32769, 32767, -65536, 0, Integer.MAX_VALUE, -1, Integer.MIN_VALUE, 0, 0x12348000,
                -32768);
    }

    private static void lowestBitsOfInts() {
        Due.sentence("ITEM i becomes v, its lowest bits, as many as the LANE has (32)");
        dueBits(INTS, 32768, 32768, 65536, 65536, Integer.MAX_VALUE, Integer.MAX_VALUE, Integer.MIN_VALUE,
                Integer.MIN_VALUE, -1, -1, Due.BAD, Due.BAD, Due.NULL, Due.NULL);
    }

    private static void noSuchPlace() {
        Due.sentence("PLACE (no such place of a SHEET)");
        CottonWeeks x = new CottonWeeks();
        x.sheet(0, INTS, 9);
        Due.due("set() of the first", x.set(0, 0, 1), 1);
        Due.due("set() of the last", x.set(0, 8, 1), 1);
        Due.dueAll("set() of none", Due.PLACE, x.set(0, -1, 1), x.set(0, 9, 1), x.set(0, 79, 1), x.set(0, 80, 1),
                x.set(0, Integer.MIN_VALUE, 1), x.set(0, Integer.MAX_VALUE, 1));
        Due.due("status()", x.status(), 2);
    }

    private static void aFoundSetChangesNothing() {
        Due.sentence("What is refused, or found, changes nothing but status()");
        CottonWeeks x = new CottonWeeks();
        Due.lay(x, 0, 1, 2, 3);
        Due.dueAll("set() of no place", Due.PLACE, x.set(0, -1, 9), x.set(0, 3, 9));
        Due.due("set() of a missing SHEET", x.set(1, 0, 9), Due.NULL);
        Due.dueAll("set() of no SHEET", Due.BAD, x.set(-1, 0, 9), x.set(8, 0, 9));
        dueItems(x, 0, 1, 2, 3);
        Due.due("set() laid none", x.set(1, 0, 9), Due.NULL);
    }

    private static void copiesFullRows() {
        Due.sentence("n ITEMS of a from i on come to b from j on");
        CottonWeeks x = new CottonWeeks();
        x.sheet(0, INTS, 80);
        x.sheet(1, INTS, 80);
        for (int i = 0; i < 80; i++) {
            x.set(0, i, i + 1);
        }
        Due.due("all 80", x.copy(0, 0, 1, 0, 80), 80);
        Due.due("the first", item(x, 1, INTS, 0), 1);
        Due.due("the last", item(x, 1, INTS, 79), 80);
        Due.due("the last one to the first place", x.copy(0, 79, 1, 0, 1), 1);
        Due.due("the first", item(x, 1, INTS, 0), 80);
        Due.due("its neighbour", item(x, 1, INTS, 1), 2);
        Due.due("the first one to the last place", x.copy(0, 0, 1, 79, 1), 1);
        Due.due("the last", item(x, 1, INTS, 79), 1);
        Due.due("its neighbour", item(x, 1, INTS, 78), 79);
        Due.due("one too many", x.copy(0, 0, 1, 0, 81), Due.PLACE);
    }

    private static void copiesNone() {
        Due.sentence("n ITEMS of a from i on come to b from j on: n (n = 0)");
        CottonWeeks x = new CottonWeeks();
        Due.lay(x, 0, 1, 2, 3);
        Due.lay(x, 1, 4, 5);
        x.sheet(2, INTS, 0);
        Due.dueAll("copy() of none", 0, x.copy(0, 0, 1, 0, 0), x.copy(0, 3, 1, 0, 0), x.copy(0, 0, 1, 2, 0),
                x.copy(0, 3, 1, 2, 0), x.copy(2, 0, 2, 0, 0), x.copy(2, 0, 0, 3, 0), x.copy(0, 3, 2, 0, 0));
        Due.due("status()", x.status(), 0);
        Due.dueAll("copy() of none, from or to beyond an end", Due.PLACE, x.copy(0, 4, 1, 0, 0),
                x.copy(0, 0, 1, 3, 0), x.copy(2, 1, 2, 0, 0), x.copy(2, 0, 2, 1, 0), x.copy(0, -1, 1, 0, 0),
                x.copy(0, 0, 1, -1, 0));
        Due.due("status()", x.status(), 2);
        dueItems(x, 0, 1, 2, 3);
        dueItems(x, 1, 4, 5);
    }

    private static void copiesAsTheyWereAhead() {
        Due.sentence("as they were ahead");
        CottonWeeks x = new CottonWeeks();
        Due.lay(x, 0, 1, 2, 3, 4, 5);
        Due.due("one up", x.copy(0, 0, 0, 1, 4), 4);
        dueItems(x, 0, 1, 1, 2, 3, 4);
        Due.lay(x, 0, 1, 2, 3, 4, 5);
        Due.due("one down", x.copy(0, 1, 0, 0, 4), 4);
        dueItems(x, 0, 2, 3, 4, 5, 5);
        Due.due("onto themselves", x.copy(0, 0, 0, 0, 5), 5);
        dueItems(x, 0, 2, 3, 4, 5, 5);
        for (int lane = BYTES; lane <= SHORTS; lane++) {
            x.sheet(1, lane, 3);
            x.set(1, 0, 6);
            x.set(1, 1, 7);
            Due.due("one up in LANE " + lane, x.copy(1, 0, 1, 1, 2), 2);
            Due.due("the second", item(x, 1, lane, 1), 6);
            Due.due("the last", item(x, 1, lane, 2), 7);
        }
    }

    private static void copyFromBelowOrBeyond() {
        Due.sentence("PLACE (i, j, n below 0, or beyond an end): i");
        CottonWeeks x = new CottonWeeks();
        x.sheet(0, INTS, 5);
        x.sheet(1, INTS, 80);
        Due.due("the last", x.copy(0, 4, 1, 0, 1), 1);
        Due.due("all", x.copy(0, 0, 1, 0, 5), 5);
        Due.dueAll("copy()", Due.PLACE, x.copy(0, -1, 1, 0, 1), x.copy(0, -1, 1, 0, 5), x.copy(0, 5, 1, 0, 1),
                x.copy(0, 4, 1, 0, 2), x.copy(0, 1, 1, 0, 5), x.copy(0, 0, 1, 0, 6),
                x.copy(0, Integer.MIN_VALUE, 1, 0, 1), x.copy(0, Integer.MAX_VALUE, 1, 0, 1),
                x.copy(0, 1, 1, 0, Integer.MAX_VALUE), x.copy(0, Integer.MAX_VALUE, 1, 0, Integer.MAX_VALUE));
        Due.due("status()", x.status(), 2);
    }

    private static void copyToBelowOrBeyond() {
        Due.sentence("PLACE (i, j, n below 0, or beyond an end): j");
        CottonWeeks x = new CottonWeeks();
        x.sheet(0, INTS, 80);
        x.sheet(1, INTS, 5);
        Due.due("the last", x.copy(0, 0, 1, 4, 1), 1);
        Due.due("all", x.copy(0, 75, 1, 0, 5), 5);
        Due.dueAll("copy()", Due.PLACE, x.copy(0, 0, 1, -1, 1), x.copy(0, 0, 1, -1, 5), x.copy(0, 0, 1, 5, 1),
                x.copy(0, 0, 1, 4, 2), x.copy(0, 0, 1, 1, 5), x.copy(0, 0, 1, 0, 6),
                x.copy(0, 0, 1, Integer.MIN_VALUE, 1), x.copy(0, 0, 1, Integer.MAX_VALUE, 1),
                x.copy(0, 0, 1, Integer.MAX_VALUE, Integer.MAX_VALUE));
        Due.due("status()", x.status(), 2);
    }

    private static void copyOfFewerThanNone() {
        Due.sentence("PLACE (i, j, n below 0, or beyond an end): n");
        CottonWeeks x = new CottonWeeks();
        x.sheet(0, INTS, 5);
        Due.dueAll("copy()", Due.PLACE, x.copy(0, 0, 0, 0, -1), x.copy(0, 5, 0, 5, -1), x.copy(0, 3, 0, 3, -3),
                x.copy(0, 0, 0, 0, Integer.MIN_VALUE));
        Due.due("status()", x.status(), 2);
    }

    private static void copyOfSheetsOfTwoLanes() {
        Due.sentence("STORE (SHEETS of two LANES)");
        CottonWeeks x = new CottonWeeks();
        for (int lane = BYTES; lane <= INTS; lane++) {
            x.sheet(lane, lane, 4);
            x.sheet(lane + 3, lane, 4);
        }
        for (int a = 0; a < 3; a++) {
            for (int b = 3; b < 6; b++) {
                Due.due("copy() of LANE " + a + " to " + (b - 3), x.copy(a, 0, b, 0, 1), b - 3 == a ? 1 : Due.STORE);
                Due.due("status()", x.status(), b - 3 == a ? 0 : 5);
                Due.due("copy() of none", x.copy(b, 0, a, 0, 0), b - 3 == a ? 0 : Due.STORE);
            }
        }
    }

    private static void aFoundCopyChangesNothing() {
        Due.sentence("What is refused, or found, changes nothing but status()");
        CottonWeeks x = new CottonWeeks();
        Due.lay(x, 0, 1, 2, 3, 4);
        Due.lay(x, 1, 5, 6, 7);
        x.sheet(2, SHORTS, 4);
        Due.dueAll("copy() beyond an end", Due.PLACE, x.copy(0, 0, 1, 0, 4), x.copy(0, 2, 1, 0, 3),
                x.copy(1, 0, 0, 2, 3), x.copy(0, 0, 1, -1, 2));
        Due.dueAll("copy() of two LANES", Due.STORE, x.copy(0, 0, 2, 0, 4), x.copy(2, 0, 0, 0, 4));
        Due.dueAll("copy() of a missing one", Due.NULL, x.copy(3, 0, 0, 0, 1), x.copy(0, 0, 3, 0, 1));
        Due.dueAll("copy() of none", Due.BAD, x.copy(8, 0, 0, 0, 1), x.copy(0, 0, 8, 0, 1));
        dueItems(x, 0, 1, 2, 3, 4);
        dueItems(x, 1, 5, 6, 7);
        Due.due("a LANE is as it was", x.set(2, 0, 65536), 0);
    }

    private static void dropTellsHowMany() {
        Due.sentence("how many ITEMS it had");
        int[] sizes = {0, 1, 79, 80};
        for (int n : sizes) {
            CottonWeeks x = new CottonWeeks();
            x.sheet(5, n % 3, n);
            Due.due("drop() of " + n, x.drop(5), n);
            Due.due("status()", x.status(), 0);
            Due.due("none is there", x.count(0), 0);
        }
    }

    private static void droppedIsMissing() {
        Due.sentence("A SHEET is missing from now on");
        CottonWeeks x = allLaid();
        x.drop(3);
        Due.dueAll("NULL", Due.NULL, x.drop(3), x.set(3, 0, 1), x.copy(3, 0, 0, 0, 1), x.copy(0, 0, 3, 0, 1),
                x.home(3, 0), x.paid(3, 9, 1, 0), x.works(3, 0, 1, 0, 0));
        Due.due("seven are there", x.count(0), 7);
        Due.due("its neighbours are", x.set(2, 0, 1), 1);
        Due.due("its neighbours are", x.set(4, 0, 1), 1);
        Due.due("sheet() lays it anew", x.sheet(3, INTS, 11), 11);
        dueItems(x, 3, 0, 0, 0, 0, 0, 0, 0, 0, 0, 0, 0);
    }

    private static void dueStatus(CottonWeeks x, String call, int got, int want, int status) {
        Due.due(call, got, want);
        Due.due("status() behind " + call, x.status(), status);
    }

    private static void statusOfEachFinding() {
        Due.sentence("the number of its FINDING");
        CottonWeeks x = allLaid();
        x.drop(1);
        x.sheet(2, BYTES, 1);
        x.thing(0, 5, Due.NONE);
        dueStatus(x, "sheet()", x.sheet(0, INTS, -1), Due.SIZE, 4);
        dueStatus(x, "set()", x.set(1, 0, 1), Due.NULL, 1);
        dueStatus(x, "set()", x.set(0, 11, 1), Due.PLACE, 2);
        dueStatus(x, "copy()", x.copy(0, 0, 1, 0, 1), Due.NULL, 1);
        dueStatus(x, "copy()", x.copy(0, 0, 2, 0, 1), Due.STORE, 5);
        dueStatus(x, "copy()", x.copy(0, 0, 3, 0, 12), Due.PLACE, 2);
        dueStatus(x, "drop()", x.drop(1), Due.NULL, 1);
        dueStatus(x, "as()", x.as(0, 1), Due.KIND, 3);
        dueStatus(x, "home()", x.home(1, 0), Due.NULL, 1);
        dueStatus(x, "home()", x.home(0, 3), Due.PLACE, 2);
        dueStatus(x, "paid()", x.paid(1, 0, 1, 0), Due.NULL, 1);
        dueStatus(x, "paid()", x.paid(0, 10, 1, 0), Due.PLACE, 2);
        dueStatus(x, "works()", x.works(1, 0, 1, 0, 0), Due.NULL, 1);
        dueStatus(x, "works()", x.works(0, 10, 1, 0, 0), Due.PLACE, 2);
    }

    private static void statusOfCallsWithoutSheets() {
        Due.sentence("Of the latest call with a SHEET, or as()");
        CottonWeeks x = new CottonWeeks();
        x.sheet(0, INTS, -1);
        x.thing(0, 5, Due.NONE);
        int[] taken = {x.stuff(0, 0, 100), x.ship(0, 0, 1, 1), x.mill(1, 1, 0, 0), x.stock(0, 0, 1), x.told(0, 0),
            x.step(1), x.ran(0, 0), x.price(0, 0), x.feed(' ', 1), x.lists(), x.fault(), x.holds(0, 0),
            x.first(0, 0), x.house(0, 0), x.news(0, 0, 0, 0), x.known(0, 0), x.kind(0), x.ask(0, 0), x.trace(0),
            x.count(0)};
        Due.dueRow("calls without a SHEET", taken, 100, 1, 0, 0, 1, 1, 0, x.price(0, 0), 1, 0, 0, 0, Due.NONE,
                Due.BAD, 1, 1, 0, 5, 10, 0);
        Due.due("status()", x.status(), 4);
        Due.due("status() of status()", x.status(), 4);
    }

    private static void statusBehindRefusals() {
        Due.sentence("that was not BAD, STATE, FULL");
        CottonWeeks x = allLaid();
        x.thing(0, 5, Due.NONE);
        for (int h = 0; h < 12; h++) {
            x.home(0, 0);
        }
        x.set(0, 9, 0);
        x.drop(1);
        x.drop(1);
        dueStatus(x, "sheet()", x.sheet(0, 3, 1), Due.BAD, 1);
        dueStatus(x, "set()", x.set(8, 0, 1), Due.BAD, 1);
        dueStatus(x, "copy()", x.copy(0, 0, 8, 0, 1), Due.BAD, 1);
        dueStatus(x, "drop()", x.drop(8), Due.BAD, 1);
        dueStatus(x, "home()", x.home(8, 0), Due.BAD, 1);
        dueStatus(x, "home() of the thirteenth", x.home(0, 0), Due.FULL, 1);
        dueStatus(x, "paid()", x.paid(0, 0, 9, 0), Due.BAD, 1);
        dueStatus(x, "paid() by its ITEMS", x.paid(0, 0, 1, 0), Due.BAD, 1);
        dueStatus(x, "works()", x.works(0, 0, 11, 0, 0), Due.BAD, 1);
        dueStatus(x, "works() by its ITEMS", x.works(0, 9, 1, 0, 0), Due.BAD, 1);
        dueStatus(x, "as()", x.as(1, 0), Due.BAD, 1);
        dueStatus(x, "as()", x.as(0, 6), Due.BAD, 1);
    }

    private static void statusOfOneWithoutFinding() {
        Due.sentence("0: it had none, or there was none");
        Due.due("status() at first", new CottonWeeks().status(), 0);
        CottonWeeks x = allLaid();
        x.thing(0, 5, Due.NONE);
        for (int which = 0; which < 8; which++) {
            Due.due("drop() of SHEET 7", x.drop(7), which == 0 ? 11 : Due.NULL);
            x.drop(7);
            Due.due("status()", x.status(), 1);
            int[] answers = {4, 9, 1, 11, 5, 0, 0, 1};
            Due.due("call " + which, callWithoutFinding(x, which), answers[which]);
            Due.due("status()", x.status(), 0);
        }
    }

    private static int callWithoutFinding(CottonWeeks x, int which) {
        switch (which) {
            case 0: return x.sheet(5, BYTES, 4);
            case 1: return x.set(0, 10, 9);
            case 2: return x.copy(0, 0, 1, 0, 1);
            case 3: return x.drop(6);
            case 4: return x.as(0, 0);
            case 5: return x.home(0, 0);
            case 6: return x.paid(1, 9, 1, 0);
            default: return x.works(0, 0, 1, 500, 1);
        }
    }
}
