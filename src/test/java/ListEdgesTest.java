/** THE TAPE, LISTS and what holds at their ends, promises 14 to 18: a method for each sentence that names one. */
public final class ListEdgesTest {
    /** A rule of each word, and the most that its last NUMBER may be. */
    private static final String[] RULES = {"piece 0", "piece 1", "piece 2", "piece 3", "relief", "limit", "bread",
        "first"};
    private static final int[] MOST = {99, 99, 99, 99, 99, 9999, 99, 3};

    public static void main(String[] args) {
        oneToEightBytes();
        fourHundredBytes();
        fullTapeTakesNone();
        lowestBytesHighestFirst();
        everyByteBetweenTokens();
        everyByteBehindAWord();
        everyLetterOfAWord();
        fourFiguresAtMost();
        emptyTape();
        tapeIsEmptyThen();
        weeksOfLists();
        sortsOfPieces();
        numbersOfRules();
        oneRuleAtLeast();
        faultAtTheEnd();
        faultOfTheFirstToken();
        faultOfOneTokenTheLeast();
        thirtyRulesTogether();
        theThirtyFirstRule();
        noneComesOfAFaultyText();
        latestFault();
        fromAWeekOn();
        ofOneWeekTheOneToldLast();
        withoutRules();
        eachRuleByItself();
        holdsRange();
        earnsByBreaks();
        firstsOfWeeksNoLater();
        firstsInOrder();
        eachGoodOnce();
        firstRange();
        Due.end();
    }

    private static CottonWeeks withBytes(int n) {
        CottonWeeks x = new CottonWeeks();
        Due.put(x, " ".repeat(n));
        Due.due("bytes", x.count(8), n);
        return x;
    }

    private static int rulesOf(String text) {
        return Due.read(new CottonWeeks(), text);
    }

    /** A text that has this FAULT, read by an object that has read nothing ahead of it. */
    private static void faulty(String text, int place, int number) {
        Due.fault(new CottonWeeks(), text, place, number);
    }

    private static void oneToEightBytes() {
        Due.sentence("The lowest n bytes of w (1 to 8) come behind the tape");
        Due.range("feed()", 1, 1, 8, 8, n -> new CottonWeeks().feed(-1L, n));
        for (int n = 1; n <= 8; n++) {
            Due.due("feed() of " + n + " behind 5", withBytes(5).feed(0, n), 5 + n);
        }
        CottonWeeks x = withBytes(5);
        x.feed(0, 0);
        x.feed(0, 9);
        Due.due("bytes behind refused ones", x.count(8), 5);
    }

    private static void fourHundredBytes() {
        Due.sentence("THE TAPE has at most 400 bytes; FULL: none comes");
        for (int n = 1; n <= 8; n++) {
            CottonWeeks x = withBytes(400 - n);
            Due.due("feed() of the last " + n, x.feed(0x2020202020202020L, n), 400);
            Due.due("feed() of 1 more", x.feed(' ', 1), Due.FULL);
            CottonWeeks y = withBytes(401 - n);
            Due.due("feed() of " + n + ", 1 too many", y.feed(0x2020202020202020L, n), Due.FULL);
            Due.due("bytes", y.count(8), 401 - n);
        }
    }

    private static void fullTapeTakesNone() {
        Due.sentence("FULL: none comes");
        CottonWeeks x = new CottonWeeks();
        Due.put(x, " ".repeat(385) + "from 1 bread 9");
        Due.due("bytes", x.count(8), 399);
        Due.dueAll("two bytes of a room of one", Due.FULL, x.feed(';' << 8 | 'x', 2), x.feed('9' << 8 | ';', 2));
        Due.due("the last byte", x.feed(';', 1), 400);
        Due.due("one more", x.feed('x', 1), Due.FULL);
        Due.due("lists() of 400 bytes", x.lists(), 1);
        Due.due("bread", x.holds(1, 6), 9);
        Due.due("feed() behind it", x.feed(' ', 1), 1);
    }

    private static void lowestBytesHighestFirst() {
        Due.sentence("The lowest n bytes of w, the highest of them first");
        byte[] text = "from 1 bread 23;".getBytes(java.nio.charset.StandardCharsets.US_ASCII);
        for (int n = 1; n <= 8; n++) {
            CottonWeeks x = new CottonWeeks();
            for (int at = 0; at < text.length; at += n) {
                // What stands above the lowest n bytes must not matter.
                long w = -1L;
                int some = Math.min(n, text.length - at);
                for (int k = 0; k < some; k++) {
                    w = w << 8 | text[at + k];
                }
                Due.due("feed()", x.feed(w, some), at + some);
            }
            Due.due("lists() of bytes by " + n, x.lists(), 1);
            Due.due("bread", x.holds(1, 6), 23);
        }
    }

    private static void everyByteBetweenTokens() {
        Due.sentence("SIGNS ; bytes 32 and 10 between");
        for (int b = 0; b < 256; b++) {
            boolean gap = b == 32 || b == 10;
            String text = "from 1 bread 1;" + (char) b;
            if (gap) {
                Due.due("lists() with byte " + b + " behind", rulesOf(text), 1);
                Due.due("lists() with byte " + b + " ahead", rulesOf((char) b + "from 1 bread 1;"), 1);
                Due.due("lists() of it alone", rulesOf("" + (char) b), 0);
            } else {
                faulty(text, 15, 1);
                faulty("" + (char) b, 0, 1);
            }
        }
    }

    private static void everyByteBehindAWord() {
        Due.sentence("NAMES (letters a to z), NUMBERS (figures, 4 at most)");
        for (int b = 0; b < 256; b++) {
            String text = "from" + (char) b + "1 bread 1;";
            if (b >= 'a' && b <= 'z') {
                faulty(text, 0, 1);
            } else if (b >= '0' && b <= '9' || b == 32 || b == 10) {
                Due.due("lists() with byte " + b, rulesOf(text), 1);
            } else {
                faulty(text, 4, 1);
            }
        }
    }

    private static void everyLetterOfAWord() {
        Due.sentence("'from', 'piece', 'relief', 'limit', 'bread', 'first'");
        String[] words = {"from", "piece 0", "relief", "limit", "bread", "first"};
        for (String word : words) {
            String ahead = word.equals("from") ? "" : "from 1 ";
            String behind = word.equals("from") ? " 1 bread 1;" : " 1;";
            String name = word.split(" ")[0];
            String rest = word.substring(name.length()) + behind;
            Due.due("lists() with " + word, rulesOf(ahead + word + behind), 1);
            for (int k = 0; k < name.length(); k++) {
                String start = name.substring(0, k);
                String end = name.substring(k + 1);
                faulty(ahead + start + (char) (name.charAt(k) + 1) + end + rest, ahead.length(), 1);
                faulty(ahead + start + end + rest, ahead.length(), 1);
                faulty(ahead + start + "a" + name.substring(k) + rest, ahead.length(), 1);
                faulty(ahead + start + Character.toUpperCase(name.charAt(k)) + end + rest, ahead.length(), 1);
            }
            faulty(ahead + name + "s" + rest, ahead.length(), 1);
        }
    }

    private static void fourFiguresAtMost() {
        Due.sentence("NUMBERS (figures, 4 at most)");
        Due.dueAll("1 to 4", 1, rulesOf("from 1 limit 1;"), rulesOf("from 1 limit 12;"), rulesOf("from 1 limit 123;"),
                rulesOf("from 1 limit 1234;"), rulesOf("from 1 limit 0000;"), rulesOf("from 0001 limit 1;"),
                rulesOf("from 1 piece 0003 0099;"), rulesOf("from 1 first 0003;"));
        faulty("from 1 limit 12345;", 13, 1);
        faulty("from 1 limit 00000;", 13, 1);
        faulty("from 00001 limit 1;", 5, 1);
        faulty("from 1 piece 00003 1;", 13, 1);
        faulty("from 1 first 00003;", 13, 1);
        faulty("from 1 limit " + "1".repeat(387), 13, 1);
        faulty("00000", 0, 1);
        CottonWeeks x = new CottonWeeks();
        Due.read(x, "from 1 limit 0012;");
        Due.due("limit", x.holds(1, 5), 12);
    }

    private static void emptyTape() {
        Due.sentence("text: { 'from' .. ';' } (none at all)");
        CottonWeeks x = new CottonWeeks();
        Due.dueAll("lists() of no bytes", 0, x.lists(), x.lists());
        Due.due("fault()", x.fault(), 0);
        Due.due("lists() of gaps", Due.read(x, " \n ".repeat(133) + " "), 0);
        Due.read(x, "from 1 bread 1;");
        Due.due("lists() of no bytes", x.lists(), 1);
        Due.due("lists() of gaps", Due.read(x, " "), 1);
        Due.due("fault()", x.fault(), 0);
    }

    private static void tapeIsEmptyThen() {
        Due.sentence("The tape, empty then, is read");
        CottonWeeks x = new CottonWeeks();
        Due.read(x, "from 1 bread 1;");
        Due.due("bytes", x.count(8), 0);
        Due.due("it is not read again", x.lists(), 1);
        Due.fault(x, "from 1 bread 1; x", 16, 1);
        Due.due("bytes behind a FAULT", x.count(8), 0);
        Due.due("it is not read again", x.lists(), 1);
        Due.put(x, " ".repeat(400));
        x.lists();
        Due.due("feed() behind 400 bytes", x.feed(' ', 1), 1);
        // A shorter text must not be read on into what stood there.
        Due.put(x, "from 1 bread 12 bread 34 x");
        x.lists();
        Due.fault(x, "from 1", 6, 1);
        Due.fault(x, "from 1 bread 1", 14, 1);
        Due.due("its last NUMBER ends with it", Due.read(x, "from 2 bread 7;"), 2);
    }

    private static void weeksOfLists() {
        Due.sentence("'from' NUMBER: from a WEEK on (0 to 99)");
        Due.dueAll("taken", 1, rulesOf("from 0 bread 1;"), rulesOf("from 99 bread 1;"), rulesOf("from 0099 bread 1;"));
        faulty("from 100 bread 1;", 5, 2);
        faulty("from 9999 bread 1;", 5, 2);
        CottonWeeks x = new CottonWeeks();
        Due.read(x, "from 0 bread 5;from 99 relief 6;");
        Due.dueRow("bread", new int[] {x.holds(0, 6), x.holds(99, 6)}, 5, 5);
        Due.dueRow("relief", new int[] {x.holds(0, 4), x.holds(98, 4), x.holds(99, 4)}, 0, 0, 6);
    }

    private static void sortsOfPieces() {
        Due.sentence("'piece' NUMBER NUMBER (a SORT, pence: 0 to 99)");
        for (int sort = 0; sort < 4; sort++) {
            CottonWeeks x = new CottonWeeks();
            Due.due("lists()", Due.read(x, "from 1 piece " + sort + " 7;"), 1);
            for (int other = 0; other < 4; other++) {
                Due.due("piece of " + other, x.holds(1, other), other == sort ? 7 : 0);
            }
        }
        faulty("from 1 piece 4 1;", 13, 2);
        faulty("from 1 piece 9999 1;", 13, 2);
        faulty("from 1 piece 4;", 13, 2);
    }

    private static void numbersOfRules() {
        Due.sentence("pence: 0 to 99 | 0 to 99 | 0 to 9999 | 0 to 99 | a GOOD 0 to 3");
        for (int r = 0; r < RULES.length; r++) {
            String ahead = "from 1 " + RULES[r] + " ";
            CottonWeeks x = new CottonWeeks();
            Due.due("least of " + RULES[r], Due.read(x, ahead + "0;"), 1);
            Due.due("it holds", x.holds(1, r), r == 7 ? 1 : 0);
            Due.due("most of " + RULES[r], Due.read(x, ahead + MOST[r] + ";"), 2);
            Due.due("it holds", x.holds(1, r), r == 7 ? 9 : MOST[r]);
            faulty(ahead + (MOST[r] + 1) + ";", ahead.length(), r == 5 ? 1 : 2);
            faulty(ahead + "-1;", ahead.length(), 1);
            if (r != 5) {
                faulty(ahead + "9999;", ahead.length(), 2);
            }
        }
    }

    private static void oneRuleAtLeast() {
        Due.sentence("'from' NUMBER rule { rule } ';'");
        faulty("from 1;", 6, 1);
        faulty("from 1 bread 1;from 2;", 21, 1);
        Due.due("one", rulesOf("from 1 bread 1;"), 1);
        Due.due("two", rulesOf("from 1 bread 1 bread 2;"), 2);
        faulty("from 1 bread 1;;", 15, 1);
        faulty("from 1 bread 1 2;", 15, 1);
        faulty("from 1 piece 1 2 3;", 17, 1);
        faulty("from 1 piece 1;", 14, 1);
        faulty("from 1 bread;", 12, 1);
        faulty("from one bread 1;", 5, 1);
        faulty("from 1 bread one;", 13, 1);
        faulty("from 1 piece one 1;", 13, 1);
        faulty("from 1 2 3;", 7, 1);
        faulty("from 1 bread 1 from 2 bread 1;", 15, 1);
    }

    private static void faultAtTheEnd() {
        Due.sentence("(the end: how many bytes there are)");
        String[] texts = {"from", "from 1", "from 1 bread", "from 1 bread 1", "from 1 piece", "from 1 piece 1",
            "from 1 piece 1 2", "from 1 bread 1;from", "from 1 bread 1;from 2", "from 1 bread 1 relief 2"};
        for (String text : texts) {
            faulty(text, text.length(), 1);
            faulty(text + " ", text.length() + 1, 1);
            faulty(text + "\n \n", text.length() + 3, 1);
            faulty(text + " ".repeat(400 - text.length()), 400, 1);
        }
    }

    private static void faultOfTheFirstToken() {
        Due.sentence("FAULTS, the first TOKEN that has one (its first byte)");
        faulty("x from 100 bread 100;", 0, 1);
        faulty("fro", 0, 1);
        faulty("from 100 bread 100 x", 5, 2);
        faulty("from 1 bread 100 x", 13, 2);
        faulty("from 1 bred 100 ?", 7, 1);
        faulty("from 1 bread ? 100", 13, 1);
        faulty("from 1 bread 1?", 14, 1);
        faulty("from 1 piece 4 100;", 13, 2);
        faulty("from 1 piece 3 100;", 15, 2);
        faulty("from 1 bread 1; from 2 first 4 first 5;", 29, 2);
        faulty(" \n  from 1 bread   100;", 19, 2);
    }

    private static void faultOfOneTokenTheLeast() {
        Due.sentence("of one TOKEN the least");
        CottonWeeks x = new CottonWeeks();
        Due.read(x, "from 1 " + "bread 1 ".repeat(30) + ";");
        Due.fault(x, "from 1 loan 1;", 7, 1);
        Due.fault(x, "from 1 from 1;", 7, 1);
        Due.fault(x, "from 1 100;", 7, 1);
        Due.fault(x, "from 1 ;", 7, 1);
        Due.fault(x, "from 1 ", 7, 1);
        Due.fault(x, "from 1 breads 1;", 7, 1);
        Due.fault(x, "from 100 bread 1;", 5, 2);
        faulty("100", 0, 1);
        faulty("from 1 bread 1 100;", 15, 1);
    }

    private static void thirtyRulesTogether() {
        Due.sentence("They come behind those there are (30 together at most)");
        CottonWeeks x = new CottonWeeks();
        for (int r = 1; r <= 30; r++) {
            Due.due("lists()", Due.read(x, "from " + r + " limit " + r + ";"), r);
            Due.due("count() of rules", x.count(4), r);
        }
        Due.due("the first holds", x.holds(1, 5), 1);
        Due.due("the last holds", x.holds(30, 5), 30);
        Due.fault(x, "from 99 limit 7;", 8, 3);
        Due.due("the last holds still", x.holds(99, 5), 30);
        Due.due("nothing more comes", x.lists(), 30);
        CottonWeeks y = new CottonWeeks();
        Due.due("30 in one text", Due.read(y, "from 1 " + "relief 2 ".repeat(29) + "relief 3;"), 30);
        Due.due("the last holds", y.holds(1, 4), 3);
    }

    private static void theThirtyFirstRule() {
        Due.sentence("3 the 31st rule (its word)");
        for (int there = 0; there <= 30; there += 10) {
            CottonWeeks x = new CottonWeeks();
            if (there > 0) {
                Due.read(x, "from 1 " + "bread 1 ".repeat(there) + ";");
            }
            int room = 30 - there;
            Due.fault(x, "from 2 " + "bread 2 ".repeat(room + 1) + ";", 7 + 8 * room, 3);
            Due.due("none of them came", x.holds(2, 6), there > 0 ? 1 : 0);
            for (String rule : RULES) {
                Due.fault(x, "from 2 " + "bread 2 ".repeat(room) + rule + " 0;", 7 + 8 * room, 3);
            }
            Due.fault(x, "from 2 " + "bread 2 ".repeat(room) + "bread", 7 + 8 * room, 3);
            Due.fault(x, "from 2 " + "bread 2 ".repeat(room) + "first 9;", 7 + 8 * room, 3);
        }
        CottonWeeks x = new CottonWeeks();
        Due.fault(x, "from 2 " + "bread 2 ".repeat(30) + ";from 3 bread 1;", 7 + 240 + 1 + 7, 3);
        Due.due("a text that ends there", Due.read(x, "from 2 " + "bread 2 ".repeat(30) + ";"), 30);
    }

    private static void noneComesOfAFaultyText() {
        Due.sentence("-1000100 less the place of a FAULT: none comes");
        CottonWeeks x = new CottonWeeks();
        Due.fault(x, "from 0 piece 0 1 piece 1 1 piece 2 1 piece 3 1 relief 1 limit 1 bread 1 first 1; from 0 ;",
                88, 1);
        for (int what = 0; what <= 7; what++) {
            Due.due("holds() " + what, x.holds(99, what), 0);
        }
        Due.due("first()", x.first(99, 0), Due.NONE);
        Due.due("place 0", Due.read(x, "?"), -1000100);
        Due.due("place 1", Due.read(x, " ?"), -1000101);
        Due.due("place 400", Due.read(x, " ".repeat(396) + "from"), -1000500);
    }

    private static void latestFault() {
        Due.sentence("The number of the latest FAULT; 0 before one");
        CottonWeeks x = new CottonWeeks();
        Due.due("before one", x.fault(), 0);
        Due.read(x, "from 1 bread 1;");
        Due.due("behind a text without", x.fault(), 0);
        Due.fault(x, "from 100", 5, 2);
        Due.put(x, "?");
        Due.due("before the next is read", x.fault(), 2);
        x.lists();
        Due.due("behind it", x.fault(), 1);
        Due.read(x, "from 1 bread 1;");
        Due.due("behind a text without", x.fault(), 1);
        Due.fault(x, "from 1 " + "bread 1 ".repeat(30) + ";", 7 + 8 * 28, 3);
        x.lists();
        Due.due("behind an empty tape", x.fault(), 3);
    }

    private static void fromAWeekOn() {
        Due.sentence("the rule of the latest WEEK no later than it");
        for (int what = 0; what <= 6; what++) {
            CottonWeeks x = new CottonWeeks();
            String rule = RULES[what] + " ";
            Due.read(x, "from 50 " + rule + "5;from 10 " + rule + "1;from 99 " + rule + "9;from 49 " + rule + "4;");
            int[] got = {x.holds(0, what), x.holds(9, what), x.holds(10, what), x.holds(11, what), x.holds(48, what),
                x.holds(49, what), x.holds(50, what), x.holds(51, what), x.holds(98, what), x.holds(99, what)};
            Due.dueRow(rule, got, 0, 0, 1, 1, 1, 4, 5, 5, 5, 9);
        }
    }

    private static void ofOneWeekTheOneToldLast() {
        Due.sentence("of one WEEK the one told last");
        for (int what = 0; what <= 6; what++) {
            CottonWeeks x = new CottonWeeks();
            String rule = RULES[what] + " ";
            Due.read(x, "from 10 " + rule + "7 " + rule + "8 " + rule + "3;");
            Due.due("of one list", x.holds(10, what), 3);
            Due.read(x, "from 10 " + rule + "2;from 9 " + rule + "6;");
            Due.due("of two texts", x.holds(10, what), 2);
            Due.due("of the WEEK ahead", x.holds(9, what), 6);
            Due.read(x, "from 10 " + rule + "0;");
            Due.due("one of 0", x.holds(99, what), 0);
        }
    }

    private static void withoutRules() {
        Due.sentence("without: 0");
        CottonWeeks x = new CottonWeeks();
        int[] weeks = {0, 1, 50, 99};
        for (int week : weeks) {
            for (int what = 0; what <= 7; what++) {
                Due.due("holds(" + week + ", " + what + ")", x.holds(week, what), 0);
            }
            for (int sort = 0; sort < 4; sort++) {
                Due.due("EARN on " + sort, x.holds(week, 10 + sort), 0);
            }
        }
    }

    private static void eachRuleByItself() {
        Due.sentence("of each SORT's piece, of relief, of limit, of bread");
        for (int r = 0; r < RULES.length; r++) {
            CottonWeeks x = new CottonWeeks();
            Due.read(x, "from 3 " + RULES[r] + " 3;");
            for (int what = 0; what <= 7; what++) {
                int want = r == 7 ? 8 : 3;
                Due.due("holds() " + what + " by " + RULES[r], x.holds(3, what), what == r ? want : 0);
                Due.due("a WEEK ahead", x.holds(2, what), 0);
            }
        }
    }

    private static void holdsRange() {
        Due.sentence("What holds in a WEEK: 0 to 7; 10 to 13. BAD");
        Due.range("WEEK", 0, 0, 99, 0, week -> new CottonWeeks().holds(week, 6));
        Due.range("WEEK of firsts", 0, 0, 99, 0, week -> new CottonWeeks().holds(week, 7));
        Due.range("WEEK of EARN", 0, 0, 99, 0, week -> new CottonWeeks().holds(week, 10));
        Due.range("what, 0 to 7", 0, 0, 7, 0, what -> new CottonWeeks().holds(0, what));
        Due.range("what, 10 to 13", 10, 0, 13, 0, what -> new CottonWeeks().holds(0, what));
    }

    private static void earnsByBreaks() {
        Due.sentence("pieces times the piece's pence; pieces: 3000 by (50 and BREAKS)");
        CottonWeeks x = new CottonWeeks();
        Due.read(x, "from 1 piece 0 1 piece 1 99 piece 2 0 piece 3 7;");
        Due.dueRow("BREAKS at first", new int[] {x.holds(1, 10), x.holds(1, 11), x.holds(1, 12), x.holds(1, 13)},
                60, 50 * 99, 0, 37 * 7);
        int[] breaks = {0, 1, 9, 10, 11, 49, 50, 51, 98, 99};
        int[] pieces = {60, 58, 50, 50, 49, 30, 30, 29, 20, 20};
        for (int k = 0; k < breaks.length; k++) {
            x.stuff(1, 1, breaks[k]);
            Due.due("BREAKS of " + breaks[k], x.holds(1, 11), pieces[k] * 99);
        }
        Due.due("of the others they are as they were", x.holds(1, 13), 37 * 7);
        Due.due("a WEEK ahead", x.holds(0, 11), 0);
    }

    private static void dueFirsts(CottonWeeks x, int week, int... goods) {
        int set = 0;
        for (int i = 0; i < 4; i++) {
            Due.due("first(" + week + ", " + i + ")", x.first(week, i), i < goods.length ? goods[i] : Due.NONE);
        }
        for (int good : goods) {
            set |= 1 << good;
        }
        Due.due("the set in WEEK " + week, x.holds(week, 7), set);
    }

    private static void firstsOfWeeksNoLater() {
        Due.sentence("All 'first' rules of WEEKS no later hold");
        CottonWeeks x = new CottonWeeks();
        Due.read(x, "from 0 first 3;from 1 first 2;from 50 first 1;from 99 first 0;");
        dueFirsts(x, 0, 3);
        dueFirsts(x, 1, 3, 2);
        dueFirsts(x, 49, 3, 2);
        dueFirsts(x, 50, 3, 2, 1);
        dueFirsts(x, 98, 3, 2, 1);
        dueFirsts(x, 99, 3, 2, 1, 0);
        dueFirsts(new CottonWeeks(), 99);
    }

    private static void firstsInOrder() {
        Due.sentence("in order of WEEKS, of one as they were told");
        CottonWeeks x = new CottonWeeks();
        Due.read(x, "from 7 first 2 first 0;from 6 first 3;");
        dueFirsts(x, 7, 3, 2, 0);
        Due.read(x, "from 5 first 1;");
        dueFirsts(x, 5, 1);
        dueFirsts(x, 6, 1, 3);
        dueFirsts(x, 7, 1, 3, 2, 0);
        CottonWeeks y = new CottonWeeks();
        // The 30th rule of a WEEK is behind the first of it, and ahead of those of the next.
        Due.read(y, "from 2 first 1;from 1 " + "first 0 ".repeat(28) + "first 2;");
        dueFirsts(y, 2, 0, 2, 1);
    }

    private static void eachGoodOnce() {
        Due.sentence("each GOOD once");
        CottonWeeks x = new CottonWeeks();
        Due.read(x, "from 3 first 1 first 1 first 0 first 1 first 0;");
        dueFirsts(x, 3, 1, 0);
        Due.read(x, "from 4 first 0 first 3 first 1;");
        dueFirsts(x, 4, 1, 0, 3);
        Due.read(x, "from 2 first 0;");
        dueFirsts(x, 2, 0);
        dueFirsts(x, 3, 0, 1);
        dueFirsts(x, 4, 0, 1, 3);
    }

    private static void firstRange() {
        Due.sentence("The i-th GOOD that must go first in a WEEK; NONE. BAD: WEEK");
        Due.range("WEEK", 0, Due.NONE, 99, Due.NONE, week -> new CottonWeeks().first(week, 0));
        Due.range("WEEK, and no such GOOD", 0, Due.NONE, 99, Due.NONE, week -> new CottonWeeks().first(week, -1));
        CottonWeeks x = new CottonWeeks();
        Due.read(x, "from 0 first 3 first 2 first 1 first 0;");
        Due.due("the last", x.first(0, 3), 0);
        Due.dueAll("none", Due.NONE, x.first(0, -1), x.first(0, 4), x.first(99, Integer.MIN_VALUE),
                x.first(99, Integer.MAX_VALUE));
    }
}
