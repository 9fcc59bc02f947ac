import java.util.Arrays;

/** A county of mills whose cotton lies behind a war: the document's numbered promises say what each call answers. */
public final class CottonWeeks {
    public static final int NONE = -1000000, BAD = -1000001, STATE = -1000002, FULL = -1000003;

    private static final int FINDINGS = -1000010, FAULTS = -1000100;
    private static final int NULL_FOUND = 1, PLACE_FOUND = 2, KIND_FOUND = 3, SIZE_FOUND = 4, STORE_FOUND = 5;
    private static final int SHEETS = 8, ITEMS = 80, WEEKS = 100;
    private static final int SORTS = 4, SHIPS = 30, MILLS = 6;
    private static final int HOMES = 12, GOODS = 4, HOME_ITEMS = 9, OWING = 8;
    private static final int THINGS = 16, WORKS = 10, NEWS = 20;
    private static final int BYTES = 0, SHORTS = 1, INTS = 2;
    private static final int YARN = 2, LOAN = 5;
    private static final int RELIEF_RULE = 4, LIMIT_RULE = 5, BREAD_RULE = 6, FIRST_RULE = 7;

    private final Sheet[] sheets = new Sheet[SHEETS];
    private final County county = new County();
    private final Rules rules = new Rules();
    private final Tape tape = new Tape();
    private final Home[] homes = new Home[HOMES];
    private final Debts debts = new Debts();
    private final Works best = new Works();
    private final Bodies bodies = new Bodies();
    private final Papers papers = new Papers();
    private int homeCount;
    private int finding;

    public CottonWeeks() {
        for (int s = 0; s < SHEETS; s++) {
            sheets[s] = new Sheet();
        }
    }

    // ---- sheets

    public int sheet(int sheet, int lane, int n) {
        if (!isSheet(sheet) || !within(lane, BYTES, INTS) || n > ITEMS) {
            return BAD;
        }
        if (n < 0) {
            return found(SIZE_FOUND);
        }
        sheets[sheet].begin(lane, n);
        return unfound(n);
    }

    public int set(int sheet, int i, int v) {
        if (!isSheet(sheet)) {
            return BAD;
        }
        Sheet s = sheets[sheet];
        int finds = s.findingAt(i, 1);
        return finds != 0 ? found(finds) : unfound(s.put(i, v));
    }

    public int copy(int a, int i, int b, int j, int n) {
        if (!isSheet(a) || !isSheet(b)) {
            return BAD;
        }
        Sheet from = sheets[a];
        Sheet to = sheets[b];
        if (from.missing || to.missing) {
            return found(NULL_FOUND);
        }
        if (from.lane != to.lane) {
            return found(STORE_FOUND);
        }
        if (!from.reaches(i, n) || !to.reaches(j, n)) {
            return found(PLACE_FOUND);
        }
        System.arraycopy(from.items, i, to.items, j, n);
        return unfound(n);
    }

    public int drop(int sheet) {
        if (!isSheet(sheet)) {
            return BAD;
        }
        Sheet s = sheets[sheet];
        if (s.missing) {
            return found(NULL_FOUND);
        }
        s.missing = true;
        return unfound(s.size);
    }

    // ---- the county

    public int stuff(int sort, int what, int v) {
        switch (what) {
            case 0:
                return within(v, 1, 1000) ? ofSort(county.base, sort, v) : BAD;
            case 1:
                return within(v, 0, 99) ? ofSort(county.breaks, sort, v) : BAD;
            case 2:
                return within(v, 0, 9999) ? ofSort(county.port, sort, v) : BAD;
            case 3:
                return within(v, 0, 5000) ? county.changeCloth(v) : BAD;
            case 4:
                return within(v, 0, 100) ? county.changeFear(v) : BAD;
            default:
                return BAD;
        }
    }

    public int ship(int week, int sort, int bales, int through) {
        if (!isWeek(week) || !isSort(sort) || !within(bales, 1, 500) || !within(through, 0, 1)) {
            return BAD;
        }
        return county.addShip(week, sort, bales, through);
    }

    public int mill(int need, int takes, int margin, int hold) {
        if (!within(need, 1, 50) || !within(takes, 1, 15) || !within(margin, 0, 1000) || !within(hold, 0, 5000)) {
            return BAD;
        }
        return county.addMill(need, takes, margin, hold);
    }

    public int stock(int mill, int sort, int v) {
        if (!county.hasMill(mill) || !isSort(sort) || !within(v, 0, 9999)) {
            return BAD;
        }
        return changed(county.mills[mill].bales, sort, v);
    }

    public int told(int mill, int what) {
        if (!county.hasMill(mill) || !within(what, 0, 9)) {
            return BAD;
        }
        return county.mills[mill].tells(what);
    }

    public int step(int n) {
        if (!within(n, 1, 20)) {
            return BAD;
        }
        int steps = Math.min(n, WEEKS - county.week);
        for (int s = 0; s < steps; s++) {
            passWeek();
        }
        return steps;
    }

    public int ran(int mill, int week) {
        if (!within(mill, 0, MILLS - 1) || !isWeek(week)) {
            return BAD;
        }
        return county.sortRun(mill, week);
    }

    public int price(int sort, int what) {
        if (!isSort(sort) || !within(what, 0, 1)) {
            return BAD;
        }
        if (what == 0) {
            return county.priceNow(sort);
        }
        return county.week == 0 ? NONE : county.prices[sort];
    }

    // ---- lists

    public int feed(long w, int n) {
        if (!within(n, 1, 8)) {
            return BAD;
        }
        return tape.append(w, n);
    }

    public int lists() {
        boolean read = tape.readInto(rules);
        tape.length = 0;
        if (!read) {
            return FAULTS - tape.faultPlace;
        }
        rules.keepStaged();
        return rules.count;
    }

    public int fault() {
        return tape.latestFault;
    }

    public int holds(int week, int what) {
        if (!isWeek(week)) {
            return BAD;
        }
        if (within(what, 10, 13)) {
            return earned(what - 10, week);
        }
        if (what == FIRST_RULE) {
            return rules.firstSet(week);
        }
        return within(what, 0, BREAD_RULE) ? rules.inForce(week, what) : BAD;
    }

    public int first(int week, int i) {
        if (!isWeek(week)) {
            return BAD;
        }
        return within(i, 0, rules.orderGoods(week) - 1) ? rules.order[i] : NONE;
    }

    // ---- homes

    public int home(int sheet, int i) {
        if (!isSheet(sheet)) {
            return BAD;
        }
        if (homeCount >= HOMES) {
            return FULL;
        }
        Sheet s = sheets[sheet];
        int finds = s.findingAt(i, HOME_ITEMS);
        if (finds != 0) {
            return found(finds);
        }
        if (!homeItemsFit(s.items, i)) {
            return BAD;
        }
        homes[homeCount] = new Home(s.items, i);
        homeCount++;
        return unfound(homeCount - 1);
    }

    public int house(int home, int what) {
        if (!within(home, 0, homeCount - 1) || !within(what, 0, 10)) {
            return BAD;
        }
        return homes[home].tells(what);
    }

    public int paid(int sheet, int i, int n, int k) {
        if (!isSheet(sheet) || !within(n, 1, OWING) || !within(k, 0, n)) {
            return BAD;
        }
        Sheet s = sheets[sheet];
        int finds = s.findingAt(i, n + n * n);
        if (finds != 0) {
            return found(finds);
        }
        if (!debts.take(s.items, i, n)) {
            return BAD;
        }
        int rounds = debts.settle(n);
        return unfound(k == n ? rounds : debts.pays[k]);
    }

    // ---- things, works, news

    public int thing(int sort, int number, int of) {
        if (!within(sort, 0, LOAN) || !within(number, 0, 999) || !bodies.canBeMadeOf(sort, of)) {
            return BAD;
        }
        return bodies.addThing(sort, number, of);
    }

    public int works(int sheet, int i, int n, int loan, int what) {
        if (!isSheet(sheet) || !within(n, 1, WORKS) || !within(loan, 0, 500) || !within(what, 0, 2)) {
            return BAD;
        }
        Sheet s = sheets[sheet];
        int finds = s.findingAt(i, 2 * n);
        if (finds != 0) {
            return found(finds);
        }
        if (!best.take(s.items, i, n)) {
            return BAD;
        }
        best.choose(n, loan);
        return unfound(best.tells(what));
    }

    public int news(int what, int week, int town, int later) {
        if (!within(what, 0, 9) || !isWeek(week) || !within(town, 0, 3) || !within(later, 0, 30)) {
            return BAD;
        }
        return papers.print(what, town, week + later);
    }

    public int known(int town, int week) {
        if (!within(town, 0, 3) || !isWeek(week)) {
            return BAD;
        }
        return papers.readBy(town, week);
    }

    // ---- asked

    public int kind(int thing) {
        return bodies.hasThing(thing) ? bodies.sorts[thing] : BAD;
    }

    public int as(int thing, int kind) {
        if (!bodies.hasThing(thing) || !within(kind, 0, LOAN)) {
            return BAD;
        }
        if (!Bodies.isA(bodies.sorts[thing], kind)) {
            return found(KIND_FOUND);
        }
        return unfound(bodies.numbers[thing]);
    }

    public int ask(int thing, int what) {
        if (!bodies.hasThing(thing) || !within(what, 0, 1)) {
            return BAD;
        }
        return bodies.answer(thing, what, county.week, rules.inForce(county.week, RELIEF_RULE));
    }

    public int trace(int i) {
        return within(i, 0, bodies.traceCount - 1) ? bodies.trace[i] : NONE;
    }

    public int count(int what) {
        switch (what) {
            case 0:
                return sheetsThere();
            case 1:
                return county.millCount;
            case 2:
                return homeCount;
            case 3:
                return county.shipCount;
            case 4:
                return rules.count;
            case 5:
                return bodies.thingCount;
            case 6:
                return bodies.yarns();
            case 7:
                return county.week;
            case 8:
                return tape.length;
            case 9:
                return county.allBales();
            default:
                return BAD;
        }
    }

    public int status() {
        return finding;
    }

    // ---- what the calls share

    private static boolean within(int v, int least, int most) {
        return v >= least && v <= most;
    }

    private static boolean isSheet(int sheet) {
        return within(sheet, 0, SHEETS - 1);
    }

    private static boolean isSort(int sort) {
        return within(sort, 0, SORTS - 1);
    }

    private static boolean isWeek(int week) {
        return within(week, 0, WEEKS - 1);
    }

    private int found(int number) {
        finding = number;
        return FINDINGS - number;
    }

    private int unfound(int answer) {
        finding = 0;
        return answer;
    }

    private static int ofSort(int[] row, int sort, int v) {
        return isSort(sort) ? changed(row, sort, v) : BAD;
    }

    private static int changed(int[] row, int i, int v) {
        int was = row[i];
        row[i] = v;
        return was;
    }

    private int sheetsThere() {
        int there = 0;
        for (int s = 0; s < SHEETS; s++) {
            if (!sheets[s].missing) {
                there++;
            }
        }
        return there;
    }

    private int earned(int sort, int week) {
        int pieces = 3000 / Math.max(1, 50 + county.breaks[sort]);
        return pieces * rules.inForce(week, sort);
    }

    private void passWeek() {
        county.landShips();
        county.fixPrices();
        county.workMills();
        liveHomes();
        county.week++;
    }

    private void liveHomes() {
        int week = county.week;
        int bread = rules.inForce(week, BREAD_RULE);
        int relief = rules.inForce(week, RELIEF_RULE);
        int limit = rules.inForce(week, LIMIT_RULE);
        int firsts = rules.orderGoods(week);
        for (int h = 0; h < homeCount; h++) {
            Home home = homes[h];
            int sort = county.sortRun(home.mill, week);
            if (sort == NONE) {
                home.spend(bread);
                home.beRelieved(relief, limit, rules.order, firsts);
            } else {
                home.savings += home.hands * earned(sort, week);
                home.spend(bread);
            }
            home.sellGoods(rules.order);
            home.hungerIfShort();
        }
    }

    private static boolean homeItemsFit(int[] items, int i) {
        boolean fit = within(items[i], 0, MILLS - 1)
                && within(items[i + 1], 1, 12)
                && within(items[i + 2], 0, items[i + 1])
                && within(items[i + 3], 0, 9999)
                && within(items[i + 4], 0, 99);
        for (int g = 0; g < GOODS; g++) {
            fit = fit && within(items[i + 5 + g], 0, 999);
        }
        return fit;
    }

    /** A SHEET: its row is made once and used again, whatever LANE it gets. */
    private static final class Sheet {
        final int[] items = new int[ITEMS];
        boolean missing = true;
        int lane;
        int size;

        void begin(int newLane, int n) {
            Arrays.fill(items, 0);
            missing = false;
            lane = newLane;
            size = n;
        }

        boolean reaches(int i, int n) {
            return i >= 0 && n >= 0 && (long) i + n <= size;
        }

        /** What a call with n ITEMS from i on finds first; 0: nothing. */
        int findingAt(int i, int n) {
            if (missing) {
                return NULL_FOUND;
            }
            return reaches(i, n) ? 0 : PLACE_FOUND;
        }

        int put(int i, int v) {
            if (lane == BYTES) {
                items[i] = (byte) v;
            } else if (lane == SHORTS) {
                items[i] = (short) v;
            } else {
                items[i] = v;
            }
            return items[i];
        }
    }

    /** SORTS, SHIPS and MILLS, and THE WEEK. */
    private static final class County {
        final int[] base = {100, 100, 100, 100};
        final int[] breaks = {0, 10, 20, 30};
        final int[] port = new int[SORTS];
        final int[] prices = new int[SORTS];
        int cloth = 500;
        int fear;
        final int[] shipWeek = new int[SHIPS];
        final int[] shipSort = new int[SHIPS];
        final int[] shipBales = new int[SHIPS];
        final int[] shipThrough = new int[SHIPS];
        int shipCount;
        final Mill[] mills = new Mill[MILLS];
        int millCount;
        int week;

        int changeCloth(int v) {
            int was = cloth;
            cloth = v;
            return was;
        }

        int changeFear(int v) {
            int was = fear;
            fear = v;
            return was;
        }

        int addShip(int inWeek, int sort, int bales, int through) {
            if (shipCount >= SHIPS) {
                return FULL;
            }
            shipWeek[shipCount] = inWeek;
            shipSort[shipCount] = sort;
            shipBales[shipCount] = bales;
            shipThrough[shipCount] = through;
            shipCount++;
            return shipCount;
        }

        int addMill(int need, int takes, int margin, int hold) {
            if (millCount >= MILLS) {
                return FULL;
            }
            mills[millCount] = new Mill(need, takes, margin, hold);
            millCount++;
            return millCount - 1;
        }

        boolean hasMill(int mill) {
            return within(mill, 0, millCount - 1);
        }

        int sortRun(int mill, int inWeek) {
            return hasMill(mill) && isWeek(inWeek) ? mills[mill].ranOn[inWeek] : NONE;
        }

        int balesOf(int sort) {
            int bales = port[sort];
            for (int m = 0; m < millCount; m++) {
                bales += mills[m].bales[sort];
            }
            return bales;
        }

        int allBales() {
            int bales = 0;
            for (int sort = 0; sort < SORTS; sort++) {
                bales += balesOf(sort);
            }
            return bales;
        }

        int priceNow(int sort) {
            int needs = 0;
            for (int m = 0; m < millCount; m++) {
                if (mills[m].canUse(sort)) {
                    needs += mills[m].need;
                }
            }
            int asked = base[sort] * (4 * needs + fear) / Math.max(1, 1 + balesOf(sort));
            return Math.min(5000, Math.max(1, asked));
        }

        void landShips() {
            for (int s = 0; s < shipCount; s++) {
                if (shipWeek[s] == week && shipThrough[s] == 1) {
                    port[shipSort[s]] += shipBales[s];
                }
            }
        }

        void fixPrices() {
            for (int sort = 0; sort < SORTS; sort++) {
                prices[sort] = priceNow(sort);
            }
        }

        void workMills() {
            for (int m = 0; m < millCount; m++) {
                Mill mill = mills[m];
                int sort = cheapestFor(mill);
                if (sort != NONE && cloth - prices[sort] >= mill.margin) {
                    runMill(mill, sort);
                } else {
                    sellOut(mill);
                }
            }
        }

        int cheapestFor(Mill mill) {
            int cheapest = NONE;
            for (int sort = 0; sort < SORTS; sort++) {
                boolean enough = mill.canUse(sort) && mill.bales[sort] + port[sort] >= mill.need;
                if (enough && (cheapest == NONE || prices[sort] < prices[cheapest])) {
                    cheapest = sort;
                }
            }
            return cheapest;
        }

        void runMill(Mill mill, int sort) {
            int own = Math.min(mill.need, mill.bales[sort]);
            int bought = mill.need - own;
            mill.bales[sort] -= own;
            port[sort] -= bought;
            mill.gain(-(long) bought * prices[sort]);
            mill.gain((long) mill.need * cloth);
            mill.ranOn[week] = sort;
            mill.weeksRun++;
        }

        void sellOut(Mill mill) {
            if (mill.hold == 0) {
                return;
            }
            for (int sort = 0; sort < SORTS; sort++) {
                if (prices[sort] >= mill.hold) {
                    int sold = changed(mill.bales, sort, 0);
                    port[sort] += sold;
                    mill.gain((long) sold * prices[sort]);
                }
            }
        }
    }

    private static final class Mill {
        static final long MOST_COIN = 2000000000L;
        final int need;
        final int takes;
        final int margin;
        final int hold;
        final int[] bales = new int[SORTS];
        final int[] ranOn = new int[WEEKS];
        int coin;
        int weeksRun;

        Mill(int need, int takes, int margin, int hold) {
            this.need = need;
            this.takes = takes;
            this.margin = margin;
            this.hold = hold;
            Arrays.fill(ranOn, NONE);
        }

        boolean canUse(int sort) {
            return (takes >> sort & 1) == 1;
        }

        void gain(long pence) {
            coin = (int) Math.min(MOST_COIN, coin + pence);
        }

        int tells(int what) {
            switch (what) {
                case 0:
                    return need;
                case 1:
                    return takes;
                case 2:
                    return margin;
                case 3:
                    return hold;
                case 8:
                    return coin;
                case 9:
                    return weeksRun;
                default:
                    return within(what, 4, 7) ? bales[what - 4] : BAD;
            }
        }
    }

    /** The rules of all LISTS, as they were told; those of a text that is still being read are staged behind them. */
    private static final class Rules {
        static final int MOST = 30;
        // Behind every rank that a rule can give a GOOD.
        static final int UNRULED = 1000000;
        final int[] weeks = new int[MOST];
        final int[] whats = new int[MOST];
        final int[] values = new int[MOST];
        final int[] order = new int[GOODS];
        final int[] ranks = new int[GOODS];
        int count;
        int staged;

        void stageNone() {
            staged = count;
        }

        boolean hasRoom() {
            return staged < MOST;
        }

        void stage(int week, int what, int value) {
            if (hasRoom()) {
                weeks[staged] = week;
                whats[staged] = what;
                values[staged] = value;
                staged++;
            }
        }

        void keepStaged() {
            count = staged;
        }

        int inForce(int week, int what) {
            int latest = -1;
            int value = 0;
            for (int r = 0; r < count; r++) {
                if (whats[r] == what && weeks[r] <= week && weeks[r] >= latest) {
                    latest = weeks[r];
                    value = values[r];
                }
            }
            return value;
        }

        /** Puts all GOODS into the order in which they are sold; answers how many of them must go first. */
        int orderGoods(int week) {
            rankGoods(week);
            int firsts = 0;
            for (int g = 0; g < GOODS; g++) {
                int ahead = 0;
                for (int other = 0; other < GOODS; other++) {
                    if (ranks[other] < ranks[g]) {
                        ahead++;
                    }
                }
                order[ahead] = g;
                if (ranks[g] < UNRULED) {
                    firsts++;
                }
            }
            return firsts;
        }

        private void rankGoods(int week) {
            for (int g = 0; g < GOODS; g++) {
                ranks[g] = UNRULED + g;
            }
            for (int r = 0; r < count; r++) {
                if (whats[r] == FIRST_RULE && weeks[r] <= week) {
                    int g = values[r];
                    ranks[g] = Math.min(ranks[g], weeks[r] * MOST + r);
                }
            }
        }

        int firstSet(int week) {
            int firsts = orderGoods(week);
            int set = 0;
            for (int i = 0; i < firsts; i++) {
                set |= 1 << order[i];
            }
            return set;
        }
    }

    /** THE TAPE and the TOKEN in hand while it is read. */
    private static final class Tape {
        static final int MOST = 400, MOST_FIGURES = 4;
        static final int END = 0, NAME = 1, NUMBER = 2, SIGN = 3, NO_TOKEN = 4;
        static final int CANNOT_STAND = 1, NOT_AS_TOLD = 2, TOO_MANY = 3;
        static final int[] MOST_VALUE = {99, 99, 99, 99, 99, 9999, 99, 3};
        final int[] bytes = new int[MOST];
        int length;
        int latestFault;
        int faultPlace;
        int tokenKind;
        int tokenAt;
        int tokenEnd;
        int number;

        int append(long w, int n) {
            if (length + n > MOST) {
                return FULL;
            }
            for (int k = n - 1; k >= 0; k--) {
                bytes[length] = (int) (w >> 8 * k) & 255;
                length++;
            }
            return length;
        }

        boolean readInto(Rules rules) {
            rules.stageNone();
            tokenEnd = 0;
            takeToken();
            for (int list = 0; list <= length && tokenKind != END; list++) {
                if (!readList(rules)) {
                    return false;
                }
            }
            return true;
        }

        private boolean readList(Rules rules) {
            if (!isWord("from")) {
                return faulty(CANNOT_STAND);
            }
            takeToken();
            if (!isNumberTo(WEEKS - 1)) {
                return false;
            }
            int week = number;
            takeToken();
            for (int rule = 0; rule <= length; rule++) {
                if (rule > 0 && tokenKind == SIGN) {
                    takeToken();
                    return true;
                }
                if (!readRule(rules, week)) {
                    return false;
                }
            }
            return faulty(CANNOT_STAND);
        }

        private boolean readRule(Rules rules, int week) {
            int what = ruleOfWord();
            if (what == NONE) {
                return faulty(CANNOT_STAND);
            }
            if (!rules.hasRoom()) {
                return faulty(TOO_MANY);
            }
            takeToken();
            // A piece is told for a SORT, and its rule bears that SORT's number.
            if (what == 0) {
                if (!isNumberTo(SORTS - 1)) {
                    return false;
                }
                what = number;
                takeToken();
            }
            if (!isNumberTo(MOST_VALUE[what])) {
                return false;
            }
            rules.stage(week, what, number);
            takeToken();
            return true;
        }

        private int ruleOfWord() {
            if (isWord("piece")) {
                return 0;
            }
            if (isWord("relief")) {
                return RELIEF_RULE;
            }
            if (isWord("limit")) {
                return LIMIT_RULE;
            }
            if (isWord("bread")) {
                return BREAD_RULE;
            }
            return isWord("first") ? FIRST_RULE : NONE;
        }

        private boolean isWord(String word) {
            if (tokenKind != NAME || tokenEnd - tokenAt != word.length()) {
                return false;
            }
            for (int k = 0; k < word.length(); k++) {
                if (bytes[tokenAt + k] != word.charAt(k)) {
                    return false;
                }
            }
            return true;
        }

        private boolean isNumberTo(int most) {
            if (tokenKind != NUMBER) {
                return faulty(CANNOT_STAND);
            }
            return number <= most || faulty(NOT_AS_TOLD);
        }

        private boolean faulty(int fault) {
            latestFault = fault;
            faultPlace = tokenAt;
            return false;
        }

        private void takeToken() {
            tokenAt = tokenEnd;
            while (tokenAt < length && isGap(bytes[tokenAt])) {
                tokenAt++;
            }
            tokenEnd = tokenAt;
            if (tokenAt >= length) {
                tokenKind = END;
            } else if (isLetter(bytes[tokenAt])) {
                takeName();
            } else if (isFigure(bytes[tokenAt])) {
                takeNumber();
            } else {
                tokenKind = bytes[tokenAt] == ';' ? SIGN : NO_TOKEN;
                tokenEnd++;
            }
        }

        private void takeName() {
            while (tokenEnd < length && isLetter(bytes[tokenEnd])) {
                tokenEnd++;
            }
            tokenKind = NAME;
        }

        private void takeNumber() {
            number = 0;
            while (tokenEnd < length && isFigure(bytes[tokenEnd])) {
                // What has too many figures is no TOKEN, so what it comes to does not matter.
                number = number * 10 + bytes[tokenEnd] - '0';
                tokenEnd++;
            }
            tokenKind = tokenEnd - tokenAt <= MOST_FIGURES ? NUMBER : NO_TOKEN;
        }

        private static boolean isGap(int b) {
            return b == 32 || b == 10;
        }

        private static boolean isLetter(int b) {
            return b >= 'a' && b <= 'z';
        }

        private static boolean isFigure(int b) {
            return b >= '0' && b <= '9';
        }
    }

    private static final class Home {
        final int mill;
        final int heads;
        final int hands;
        final int rent;
        final int[] goods = new int[GOODS];
        int savings;
        int hungered;
        int relieved;

        Home(int[] items, int i) {
            mill = items[i];
            heads = items[i + 1];
            hands = items[i + 2];
            savings = items[i + 3];
            rent = items[i + 4];
            System.arraycopy(items, i + 5, goods, 0, GOODS);
        }

        void spend(int bread) {
            savings -= heads * bread + rent;
        }

        void beRelieved(int relief, int limit, int[] order, int firsts) {
            int means = savings;
            for (int g = 0; g < firsts; g++) {
                means += goods[order[g]];
            }
            if (means <= limit) {
                savings += relief * heads;
                relieved += relief * heads;
            }
        }

        void sellGoods(int[] order) {
            for (int g = 0; g < GOODS && savings < 0; g++) {
                savings += changed(goods, order[g], 0);
            }
        }

        void hungerIfShort() {
            if (savings < 0) {
                savings = 0;
                hungered++;
            }
        }

        int tells(int what) {
            switch (what) {
                case 0:
                    return mill;
                case 1:
                    return heads;
                case 2:
                    return hands;
                case 3:
                    return savings;
                case 4:
                    return rent;
                case 9:
                    return hungered;
                case 10:
                    return relieved;
                default:
                    return within(what, 5, 8) ? goods[what - 5] : BAD;
            }
        }
    }

    /** PAID: its rows are made once and filled anew by each call. */
    private static final class Debts {
        // Each round that changes something takes a penny at least from 8 times 7000.
        static final int MOST_ROUNDS = 100000;
        final int[] income = new int[OWING];
        final int[][] owes = new int[OWING][OWING];
        final int[] owesAll = new int[OWING];
        final int[] pays = new int[OWING];
        final int[] paysNext = new int[OWING];

        boolean take(int[] items, int i, int n) {
            for (int one = 0; one < n; one++) {
                income[one] = items[i + one];
                if (!within(income[one], 0, 1000) || !takeRow(items, i + n + one * n, one, n)) {
                    return false;
                }
            }
            return true;
        }

        private boolean takeRow(int[] items, int at, int one, int n) {
            owesAll[one] = 0;
            for (int other = 0; other < n; other++) {
                int owed = items[at + other];
                if (!within(owed, 0, other == one ? 0 : 1000)) {
                    return false;
                }
                owes[one][other] = owed;
                owesAll[one] += owed;
            }
            return true;
        }

        /** Answers how many rounds changed something. */
        int settle(int n) {
            System.arraycopy(owesAll, 0, pays, 0, n);
            int rounds = 0;
            while (rounds < MOST_ROUNDS && roundChanges(n)) {
                rounds++;
            }
            return rounds;
        }

        private boolean roundChanges(int n) {
            boolean changes = false;
            for (int one = 0; one < n; one++) {
                paysNext[one] = Math.min(owesAll[one], income[one] + paidTo(one, n));
                changes = changes || paysNext[one] != pays[one];
            }
            System.arraycopy(paysNext, 0, pays, 0, n);
            return changes;
        }

        private int paidTo(int one, int n) {
            int sum = 0;
            for (int other = 0; other < n; other++) {
                if (other != one && owesAll[other] > 0) {
                    sum += pays[other] * owes[other][one] / owesAll[other];
                }
            }
            return sum;
        }
    }

    /** WORKS and the best set of them for a LOAN. */
    private static final class Works {
        final int[] cost = new int[WORKS];
        final int[] fewer = new int[WORKS];
        int bestSet;
        int bestCost;
        int bestFewer;

        boolean take(int[] items, int i, int n) {
            for (int w = 0; w < n; w++) {
                cost[w] = items[i + 2 * w];
                fewer[w] = items[i + 2 * w + 1];
                if (!within(cost[w], 1, 100) || !within(fewer[w], 0, 100)) {
                    return false;
                }
            }
            return true;
        }

        void choose(int n, int loan) {
            bestSet = 0;
            bestCost = 0;
            bestFewer = 0;
            int sets = 1 << n;
            for (int set = 1; set < sets; set++) {
                int costs = sumOf(cost, set, n);
                int gains = sumOf(fewer, set, n);
                boolean better = gains > bestFewer || gains == bestFewer && costs < bestCost;
                if (costs <= loan && better) {
                    bestSet = set;
                    bestCost = costs;
                    bestFewer = gains;
                }
            }
        }

        private static int sumOf(int[] row, int set, int n) {
            int sum = 0;
            for (int w = 0; w < n; w++) {
                if ((set >> w & 1) == 1) {
                    sum += row[w];
                }
            }
            return sum;
        }

        int tells(int what) {
            if (what == 0) {
                return bestSet;
            }
            return what == 1 ? bestCost : bestFewer;
        }
    }

    /** NEWS, each by the WEEK from which on it is known in its TOWN. */
    private static final class Papers {
        final int[] whats = new int[NEWS];
        final int[] towns = new int[NEWS];
        final int[] knownFrom = new int[NEWS];
        int printed;

        int print(int what, int town, int week) {
            if (printed >= NEWS) {
                return FULL;
            }
            whats[printed] = what;
            towns[printed] = town;
            knownFrom[printed] = week;
            printed++;
            return printed;
        }

        int readBy(int town, int week) {
            int set = 0;
            for (int p = 0; p < printed; p++) {
                if (towns[p] == town && knownFrom[p] <= week) {
                    set |= 1 << whats[p];
                }
            }
            return set;
        }
    }

    /** THINGS, the BODIES by which they answer, and THE TRACE that these leave. */
    private static final class Bodies {
        static final int MOST_TRACE = 16;
        // Far above the six BODIES that the longest ASK opens within one another.
        static final int MOST_DEPTH = 20;
        static final int SIZE = 0, MARK = 1;
        static final int[] PARENT = {NONE, 0, 1, 2, 0, 4};
        static final int[] MADE_OF = {NONE, NONE, 1, 2, NONE, NONE};
        static final int[] SIZE_BODY = {10, 11, 12, 13, 10, 14};
        static final int[] MARK_BODY = {20, 20, 21, 21, 22, 23};
        final int[] sorts = new int[THINGS];
        final int[] numbers = new int[THINGS];
        final int[] madeOf = new int[THINGS];
        final int[] trace = new int[MOST_TRACE];
        int thingCount;
        int traceCount;
        int weekNow;
        int reliefNow;

        boolean hasThing(int thing) {
            return within(thing, 0, thingCount - 1);
        }

        boolean canBeMadeOf(int sort, int of) {
            if (MADE_OF[sort] == NONE) {
                return of == NONE;
            }
            return hasThing(of) && sorts[of] == MADE_OF[sort];
        }

        int addThing(int sort, int number, int of) {
            if (thingCount >= THINGS) {
                return FULL;
            }
            sorts[thingCount] = sort;
            numbers[thingCount] = number;
            madeOf[thingCount] = of;
            thingCount++;
            return thingCount - 1;
        }

        static boolean isA(int sort, int kind) {
            int one = sort;
            for (int up = 0; up < PARENT.length && one != NONE; up++) {
                if (one == kind) {
                    return true;
                }
                one = PARENT[one];
            }
            return false;
        }

        int yarns() {
            int yarns = 0;
            for (int t = 0; t < thingCount; t++) {
                if (isA(sorts[t], YARN)) {
                    yarns++;
                }
            }
            return yarns;
        }

        int answer(int thing, int what, int week, int relief) {
            traceCount = 0;
            weekNow = week;
            reliefNow = relief;
            return begin(bodyFor(thing, what), thing, 0);
        }

        private int bodyFor(int thing, int what) {
            return what == SIZE ? SIZE_BODY[sorts[thing]] : MARK_BODY[sorts[thing]];
        }

        private int begin(int body, int thing, int depth) {
            if (depth > MOST_DEPTH) {
                return 0;
            }
            leaveTrace(body);
            int in = depth + 1;
            switch (body) {
                case 10:
                    return numbers[thing];
                case 11:
                    return begin(10, thing, in) + begin(bodyFor(thing, MARK), thing, in);
                case 12:
                    return begin(11, thing, in) + numberOf(madeOf[thing]);
                case 13:
                    return 2 * begin(12, thing, in);
                case 14:
                    return begin(10, thing, in) / 2;
                case 20:
                    return weekNow;
                case 21:
                    return begin(20, thing, in) + 100;
                case 22:
                    return begin(20, thing, in) + reliefNow;
                case 23:
                    return begin(22, thing, in) + begin(bodyFor(thing, SIZE), thing, in);
                default:
                    return 0;
            }
        }

        private void leaveTrace(int body) {
            if (traceCount < MOST_TRACE) {
                trace[traceCount] = body;
                traceCount++;
            }
        }

        private int numberOf(int thing) {
            return hasThing(thing) ? numbers[thing] : 0;
        }
    }
}
