import java.util.ArrayList;
import java.util.Comparator;
import java.util.LinkedHashSet;
import java.util.List;
import java.util.Set;
import java.util.TreeMap;
import java.util.regex.Matcher;
import java.util.regex.Pattern;

/**
 * The document told a second time, with the Java library and in other ways than the class: SHEETS are Java's own
 * arrays, THINGS are classes whose BODIES override one another, a FAULT is an exception. TwiceToldTest sets the two
 * against each other.
 */
final class Plain {
    private static final int NONE = -1000000, BAD = -1000001, FULL = -1000003;
    private static final int NULL = 1, PLACE = 2, KIND = 3, SIZE = 4, STORE = 5;

    private record Ship(int week, int sort, int bales, boolean through) {
    }

    private record Rule(int week, String what, int value) {
    }

    private record News(int what, int town, int from) {
    }

    private record Choice(int set, int cost, int fewer) {
    }

    private static final class Mill {
        int need;
        int takes;
        int margin;
        int hold;
        int[] bales = new int[4];
        long coin;
        TreeMap<Integer, Integer> ran = new TreeMap<>();
    }

    private static final class Home {
        int[] told = new int[9];
        int hungered;
        int relief;
    }

    private static final class Fault extends Exception {
        private static final long serialVersionUID = 1;
        final int number;
        final int place;

        Fault(int number, int place) {
            this.number = number;
            this.place = place;
        }
    }

    private record Token(String text, int place) {
        boolean isName() {
            return text.matches("[a-z]+");
        }

        boolean isNumber() {
            return text.matches("[0-9]{1,4}");
        }
    }

    /** What is lent to all THINGS. */
    private interface Lent {
        int number();

        int week();

        void leave(int body);

        default int size() {
            leave(10);
            return number();
        }

        default int mark() {
            leave(20);
            return week();
        }
    }

    private class Good implements Lent {
        final int number;

        Good(int number) {
            this.number = number;
        }

        @Override
        public int number() {
            return number;
        }

        @Override
        public int week() {
            return week;
        }

        @Override
        public void leave(int body) {
            if (trace.size() < 16) {
                trace.add(body);
            }
        }
    }

    private class Bale extends Good {
        Bale(int number) {
            super(number);
        }

        @Override
        public int size() {
            leave(11);
            int given = super.size();
            return given + mark();
        }
    }

    private class Yarn extends Bale {
        final Good of;

        Yarn(int number, Good of) {
            super(number);
            this.of = of;
        }

        @Override
        public int size() {
            leave(12);
            return super.size() + of.number;
        }

        @Override
        public int mark() {
            leave(21);
            return super.mark() + 100;
        }
    }

    private final class Cloth extends Yarn {
        Cloth(int number, Good of) {
            super(number, of);
        }

        @Override
        public int size() {
            leave(13);
            return super.size() * 2;
        }
    }

    private class Relief extends Good {
        Relief(int number) {
            super(number);
        }

        @Override
        public int mark() {
            leave(22);
            return super.mark() + inForce("relief", week);
        }
    }

    private final class Loan extends Relief {
        Loan(int number) {
            super(number);
        }

        @Override
        public int size() {
            leave(14);
            return super.size() / 2;
        }

        @Override
        public int mark() {
            leave(23);
            int given = super.mark();
            return given + size();
        }
    }

    private static final List<Class<?>> KINDS =
            List.of(Good.class, Bale.class, Yarn.class, Cloth.class, Relief.class, Loan.class);

    private final Object[] sheets = new Object[8];
    private final int[] base = {100, 100, 100, 100};
    private final int[] breaks = {0, 10, 20, 30};
    private final int[] port = {0, 0, 0, 0};
    private int cloth = 500;
    private int fear;
    private final List<Ship> ships = new ArrayList<>();
    private final List<Mill> mills = new ArrayList<>();
    private final List<int[]> pricesOfWeeks = new ArrayList<>();
    private int week;
    private final StringBuilder tape = new StringBuilder();
    private List<Rule> rules = new ArrayList<>();
    private int latestFault;
    private final List<Home> homes = new ArrayList<>();
    private final List<Good> things = new ArrayList<>();
    private final List<Integer> trace = new ArrayList<>();
    private final List<News> papers = new ArrayList<>();
    private int status;

    // ---- sheets

    int sheet(int sheet, int lane, int n) {
        if (sheet < 0 || sheet > 7 || lane < 0 || lane > 2 || n > 80) {
            return BAD;
        }
        if (n < 0) {
            return find(SIZE);
        }
        sheets[sheet] = lane == 0 ? new byte[n] : lane == 1 ? new short[n] : new int[n];
        return well(n);
    }

    int set(int sheet, int i, int v) {
        if (sheet < 0 || sheet > 7) {
            return BAD;
        }
        if (sheets[sheet] == null) {
            return find(NULL);
        }
        if (i < 0 || i >= sizeOf(sheet)) {
            return find(PLACE);
        }
        if (sheets[sheet] instanceof byte[] row) {
            row[i] = (byte) v;
        } else if (sheets[sheet] instanceof short[] row) {
            row[i] = (short) v;
        } else if (sheets[sheet] instanceof int[] row) {
            row[i] = v;
        }
        return well(item(sheet, i));
    }

    int copy(int a, int i, int b, int j, int n) {
        if (a < 0 || a > 7 || b < 0 || b > 7) {
            return BAD;
        }
        if (sheets[a] == null || sheets[b] == null) {
            return find(NULL);
        }
        if (sheets[a].getClass() != sheets[b].getClass()) {
            return find(STORE);
        }
        try {
            System.arraycopy(sheets[a], i, sheets[b], j, n);
        } catch (IndexOutOfBoundsException beyond) {
            return find(PLACE);
        }
        return well(n);
    }

    int drop(int sheet) {
        if (sheet < 0 || sheet > 7) {
            return BAD;
        }
        if (sheets[sheet] == null) {
            return find(NULL);
        }
        int had = sizeOf(sheet);
        sheets[sheet] = null;
        return well(had);
    }

    private int sizeOf(int sheet) {
        return java.lang.reflect.Array.getLength(sheets[sheet]);
    }

    private int item(int sheet, int i) {
        return java.lang.reflect.Array.getInt(sheets[sheet], i);
    }

    private int find(int number) {
        status = number;
        return -1000010 - number;
    }

    private int well(int answer) {
        status = 0;
        return answer;
    }

    /** The ITEMS that a call wants; null: it has left its FINDING. */
    private int[] items(int sheet, int i, int n) {
        if (sheets[sheet] == null) {
            find(NULL);
            return null;
        }
        if (i < 0 || i > sizeOf(sheet) - n) {
            find(PLACE);
            return null;
        }
        int[] row = new int[n];
        for (int k = 0; k < n; k++) {
            row[k] = item(sheet, i + k);
        }
        return row;
    }

    // ---- the county

    int stuff(int sort, int what, int v) {
        int[] least = {1, 0, 0, 0, 0};
        int[] most = {1000, 99, 9999, 5000, 100};
        if (what < 0 || what > 4 || v < least[what] || v > most[what]) {
            return BAD;
        }
        int was;
        if (what == 3) {
            was = cloth;
            cloth = v;
        } else if (what == 4) {
            was = fear;
            fear = v;
        } else if (sort < 0 || sort > 3) {
            was = BAD;
        } else {
            int[] row = List.of(base, breaks, port).get(what);
            was = row[sort];
            row[sort] = v;
        }
        return was;
    }

    int ship(int inWeek, int sort, int bales, int through) {
        if (inWeek < 0 || inWeek > 99 || sort < 0 || sort > 3 || bales < 1 || bales > 500
                || through < 0 || through > 1) {
            return BAD;
        }
        if (ships.size() == 30) {
            return FULL;
        }
        ships.add(new Ship(inWeek, sort, bales, through == 1));
        return ships.size();
    }

    int mill(int need, int takes, int margin, int hold) {
        if (need < 1 || need > 50 || takes < 1 || takes > 15 || margin < 0 || margin > 1000
                || hold < 0 || hold > 5000) {
            return BAD;
        }
        if (mills.size() == 6) {
            return FULL;
        }
        Mill mill = new Mill();
        mill.need = need;
        mill.takes = takes;
        mill.margin = margin;
        mill.hold = hold;
        mills.add(mill);
        return mills.size() - 1;
    }

    int stock(int mill, int sort, int v) {
        if (mill < 0 || mill >= mills.size() || sort < 0 || sort > 3 || v < 0 || v > 9999) {
            return BAD;
        }
        int had = mills.get(mill).bales[sort];
        mills.get(mill).bales[sort] = v;
        return had;
    }

    int told(int mill, int what) {
        if (mill < 0 || mill >= mills.size() || what < 0 || what > 9) {
            return BAD;
        }
        Mill m = mills.get(mill);
        int[] tells = {m.need, m.takes, m.margin, m.hold, m.bales[0], m.bales[1], m.bales[2], m.bales[3],
            (int) m.coin, m.ran.size()};
        return tells[what];
    }

    int step(int n) {
        if (n < 1 || n > 20) {
            return BAD;
        }
        int steps = 0;
        while (steps < n && week < 100) {
            oneStep();
            steps++;
        }
        return steps;
    }

    int ran(int mill, int inWeek) {
        if (mill < 0 || mill > 5 || inWeek < 0 || inWeek > 99) {
            return BAD;
        }
        return mill < mills.size() ? mills.get(mill).ran.getOrDefault(inWeek, NONE) : NONE;
    }

    int price(int sort, int what) {
        if (sort < 0 || sort > 3 || what < 0 || what > 1) {
            return BAD;
        }
        if (what == 0) {
            return priceOf(sort);
        }
        return pricesOfWeeks.isEmpty() ? NONE : pricesOfWeeks.get(pricesOfWeeks.size() - 1)[sort];
    }

    private int priceOf(int sort) {
        long wanted = fear;
        long offered = 1 + port[sort];
        for (Mill m : mills) {
            wanted += takes(m, sort) ? 4 * m.need : 0;
            offered += m.bales[sort];
        }
        long price = base[sort] * wanted / offered;
        return price < 1 ? 1 : price > 5000 ? 5000 : (int) price;
    }

    private static boolean takes(Mill m, int sort) {
        return (m.takes & 1 << sort) != 0;
    }

    private void oneStep() {
        for (Ship s : ships) {
            if (s.week == week && s.through) {
                port[s.sort] += s.bales;
            }
        }
        int[] prices = {priceOf(0), priceOf(1), priceOf(2), priceOf(3)};
        pricesOfWeeks.add(prices);
        for (Mill m : mills) {
            List<Integer> sorts = new ArrayList<>();
            for (int s = 0; s < 4; s++) {
                if (takes(m, s) && m.bales[s] + port[s] >= m.need) {
                    sorts.add(s);
                }
            }
            // The sort of a list keeps those that are alike in their order.
            sorts.sort(Comparator.comparing(s -> prices[s]));
            if (!sorts.isEmpty() && cloth >= prices[sorts.get(0)] + m.margin) {
                runs(m, sorts.get(0), prices);
            } else {
                stands(m, prices);
            }
        }
        for (Home h : homes) {
            lives(h);
        }
        week++;
    }

    private void runs(Mill m, int sort, int[] prices) {
        for (int bale = 0; bale < m.need; bale++) {
            if (m.bales[sort] > 0) {
                m.bales[sort]--;
            } else {
                port[sort]--;
                m.coin -= prices[sort];
            }
        }
        m.coin = Math.min(2000000000L, m.coin + (long) m.need * cloth);
        m.ran.put(week, sort);
    }

    private void stands(Mill m, int[] prices) {
        for (int s = 0; s < 4; s++) {
            while (m.hold != 0 && prices[s] >= m.hold && m.bales[s] > 0) {
                m.bales[s]--;
                port[s]++;
                m.coin = Math.min(2000000000L, m.coin + prices[s]);
            }
        }
    }

    // ---- lists

    int feed(long w, int n) {
        if (n < 1 || n > 8) {
            return BAD;
        }
        if (tape.length() > 400 - n) {
            return FULL;
        }
        byte[] bytes = java.nio.ByteBuffer.allocate(8).putLong(w).array();
        tape.append(new String(bytes, 8 - n, n, java.nio.charset.StandardCharsets.ISO_8859_1));
        return tape.length();
    }

    int lists() {
        String text = tape.toString();
        tape.setLength(0);
        try {
            rules = readText(tokensOf(text));
        } catch (Fault fault) {
            latestFault = fault.number;
            return -1000100 - fault.place;
        }
        return rules.size();
    }

    int fault() {
        return latestFault;
    }

    private static List<Token> tokensOf(String text) {
        List<Token> tokens = new ArrayList<>();
        Matcher next = Pattern.compile("[a-z]+|[0-9]+|[^ \n]").matcher(text);
        while (next.find()) {
            tokens.add(new Token(next.group(), next.start()));
        }
        tokens.add(new Token("", text.length()));
        return tokens;
    }

    private List<Rule> readText(List<Token> tokens) throws Fault {
        List<Rule> all = new ArrayList<>(rules);
        int at = 0;
        while (at < tokens.size() - 1) {
            word(tokens.get(at), List.of("from"));
            int from = number(tokens.get(at + 1), 99);
            at += 2;
            boolean more = true;
            for (int many = 0; more; many++) {
                Token t = tokens.get(at);
                if (many > 0 && t.text.equals(";")) {
                    at++;
                    more = false;
                } else {
                    at += readRule(tokens, at, from, all);
                }
            }
        }
        return all;
    }

    /** Answers how many TOKENS the rule has. */
    private static int readRule(List<Token> tokens, int at, int from, List<Rule> all) throws Fault {
        Token t = tokens.get(at);
        word(t, List.of("piece", "relief", "limit", "bread", "first"));
        if (all.size() == 30) {
            throw new Fault(3, t.place);
        }
        if (t.text.equals("piece")) {
            int sort = number(tokens.get(at + 1), 3);
            all.add(new Rule(from, "piece " + sort, number(tokens.get(at + 2), 99)));
            return 3;
        }
        int most = t.text.equals("limit") ? 9999 : t.text.equals("first") ? 3 : 99;
        all.add(new Rule(from, t.text, number(tokens.get(at + 1), most)));
        return 2;
    }

    private static void word(Token t, List<String> words) throws Fault {
        if (!t.isName() || !words.contains(t.text)) {
            throw new Fault(1, t.place);
        }
    }

    private static int number(Token t, int most) throws Fault {
        if (!t.isNumber()) {
            throw new Fault(1, t.place);
        }
        if (Integer.parseInt(t.text) > most) {
            throw new Fault(2, t.place);
        }
        return Integer.parseInt(t.text);
    }

    int holds(int inWeek, int what) {
        if (inWeek < 0 || inWeek > 99) {
            return BAD;
        }
        if (what >= 0 && what <= 3) {
            return inForce("piece " + what, inWeek);
        }
        if (what >= 10 && what <= 13) {
            return earn(what - 10, inWeek);
        }
        switch (what) {
            case 4:
                return inForce("relief", inWeek);
            case 5:
                return inForce("limit", inWeek);
            case 6:
                return inForce("bread", inWeek);
            case 7:
                return firsts(inWeek).stream().mapToInt(good -> 1 << good).sum();
            default:
                return BAD;
        }
    }

    int first(int inWeek, int i) {
        if (inWeek < 0 || inWeek > 99) {
            return BAD;
        }
        List<Integer> goods = new ArrayList<>(firsts(inWeek));
        return i >= 0 && i < goods.size() ? goods.get(i) : NONE;
    }

    private List<Rule> rulesOf(String what, int inWeek) {
        return rules.stream().filter(r -> r.what.equals(what) && r.week <= inWeek)
                .sorted(Comparator.comparing(Rule::week)).toList();
    }

    private int inForce(String what, int inWeek) {
        List<Rule> told = rulesOf(what, inWeek);
        return told.isEmpty() ? 0 : told.get(told.size() - 1).value;
    }

    private Set<Integer> firsts(int inWeek) {
        Set<Integer> goods = new LinkedHashSet<>();
        rulesOf("first", inWeek).forEach(r -> goods.add(r.value));
        return goods;
    }

    private int earn(int sort, int inWeek) {
        return 3000 / (50 + breaks[sort]) * inForce("piece " + sort, inWeek);
    }

    // ---- homes

    int home(int sheet, int i) {
        if (sheet < 0 || sheet > 7) {
            return BAD;
        }
        if (homes.size() == 12) {
            return FULL;
        }
        int[] row = items(sheet, i, 9);
        if (row == null) {
            return -1000010 - status;
        }
        int[] least = {0, 1, 0, 0, 0, 0, 0, 0, 0};
        int[] most = {5, 12, row[1], 9999, 99, 999, 999, 999, 999};
        for (int k = 0; k < 9; k++) {
            if (row[k] < least[k] || row[k] > most[k]) {
                return BAD;
            }
        }
        Home h = new Home();
        h.told = row;
        homes.add(h);
        return well(homes.size() - 1);
    }

    int house(int home, int what) {
        if (home < 0 || home >= homes.size() || what < 0 || what > 10) {
            return BAD;
        }
        Home h = homes.get(home);
        return what == 9 ? h.hungered : what == 10 ? h.relief : h.told[what];
    }

    private void lives(Home h) {
        Set<Integer> firsts = firsts(week);
        int heads = h.told[1];
        int savings = h.told[3];
        int sort = ran(h.told[0], week);
        if (sort != NONE) {
            savings += h.told[2] * earn(sort, week);
        }
        savings -= heads * inForce("bread", week);
        savings -= h.told[4];
        int worth = firsts.stream().mapToInt(good -> h.told[5 + good]).sum();
        if (sort == NONE && savings + worth <= inForce("limit", week)) {
            savings += inForce("relief", week) * heads;
            h.relief += inForce("relief", week) * heads;
        }
        Set<Integer> goods = new LinkedHashSet<>(firsts);
        goods.addAll(List.of(0, 1, 2, 3));
        for (int good : goods) {
            if (savings < 0) {
                savings += h.told[5 + good];
                h.told[5 + good] = 0;
            }
        }
        if (savings < 0) {
            savings = 0;
            h.hungered++;
        }
        h.told[3] = savings;
    }

    int paid(int sheet, int i, int n, int k) {
        if (sheet < 0 || sheet > 7 || n < 1 || n > 8 || k < 0 || k > n) {
            return BAD;
        }
        int[] row = items(sheet, i, n + n * n);
        if (row == null) {
            return -1000010 - status;
        }
        for (int at = 0; at < row.length; at++) {
            boolean toItself = at >= n && (at - n) / n == (at - n) % n;
            if (row[at] < 0 || row[at] > (toItself ? 0 : 1000)) {
                return BAD;
            }
        }
        int[] owesAll = new int[n];
        for (int at = n; at < row.length; at++) {
            owesAll[(at - n) / n] += row[at];
        }
        int rounds = 0;
        int[] paid = owesAll.clone();
        int[] next = round(row, owesAll, paid);
        while (!java.util.Arrays.equals(paid, next)) {
            rounds++;
            paid = next;
            next = round(row, owesAll, paid);
        }
        return well(k == n ? rounds : paid[k]);
    }

    private static int[] round(int[] row, int[] owesAll, int[] paid) {
        int n = paid.length;
        int[] next = new int[n];
        for (int one = 0; one < n; one++) {
            int has = row[one];
            for (int other = 0; other < n; other++) {
                int owed = row[n + other * n + one];
                has += owed == 0 ? 0 : paid[other] * owed / owesAll[other];
            }
            next[one] = Math.min(owesAll[one], has);
        }
        return next;
    }

    // ---- things, works, news

    int thing(int sort, int number, int of) {
        boolean isMade = sort == 2 || sort == 3;
        if (sort < 0 || sort > 5 || number < 0 || number > 999 || !isMade && of != NONE
                || isMade && (of < 0 || of >= things.size() || kind(of) != sort - 1)) {
            return BAD;
        }
        if (things.size() == 16) {
            return FULL;
        }
        things.add(make(sort, number, of));
        return things.size() - 1;
    }

    private Good make(int sort, int number, int of) {
        switch (sort) {
            case 0:
                return new Good(number);
            case 1:
                return new Bale(number);
            case 2:
                return new Yarn(number, things.get(of));
            case 3:
                return new Cloth(number, things.get(of));
            case 4:
                return new Relief(number);
            default:
                return new Loan(number);
        }
    }

    int works(int sheet, int i, int n, int loan, int what) {
        if (sheet < 0 || sheet > 7 || n < 1 || n > 10 || loan < 0 || loan > 500 || what < 0 || what > 2) {
            return BAD;
        }
        int[] row = items(sheet, i, 2 * n);
        if (row == null) {
            return -1000010 - status;
        }
        for (int at = 0; at < row.length; at++) {
            if (row[at] < 1 - at % 2 || row[at] > 100) {
                return BAD;
            }
        }
        List<Choice> choices = new ArrayList<>(List.of(new Choice(0, 0, 0)));
        for (int w = 0; w < n; w++) {
            for (Choice c : List.copyOf(choices)) {
                choices.add(new Choice(c.set | 1 << w, c.cost + row[2 * w], c.fewer + row[2 * w + 1]));
            }
        }
        Choice best = choices.stream().filter(c -> c.cost <= loan).min(Comparator.comparing((Choice c) -> -c.fewer)
                .thenComparing(Choice::cost).thenComparing(Choice::set)).orElseThrow();
        return well(what == 0 ? best.set : what == 1 ? best.cost : best.fewer);
    }

    int news(int what, int inWeek, int town, int later) {
        if (what < 0 || what > 9 || inWeek < 0 || inWeek > 99 || town < 0 || town > 3 || later < 0 || later > 30) {
            return BAD;
        }
        if (papers.size() == 20) {
            return FULL;
        }
        papers.add(new News(what, town, inWeek + later));
        return papers.size();
    }

    int known(int town, int inWeek) {
        if (town < 0 || town > 3 || inWeek < 0 || inWeek > 99) {
            return BAD;
        }
        return papers.stream().filter(p -> p.town == town && p.from <= inWeek).mapToInt(p -> 1 << p.what)
                .reduce(0, (a, b) -> a | b);
    }

    // ---- asked

    int kind(int thing) {
        return thing < 0 || thing >= things.size() ? BAD : KINDS.indexOf(things.get(thing).getClass());
    }

    int as(int thing, int kind) {
        if (thing < 0 || thing >= things.size() || kind < 0 || kind > 5) {
            return BAD;
        }
        Good taken = things.get(thing);
        return KINDS.get(kind).isInstance(taken) ? well(taken.number) : find(KIND);
    }

    int ask(int thing, int what) {
        if (thing < 0 || thing >= things.size() || what < 0 || what > 1) {
            return BAD;
        }
        trace.clear();
        return what == 0 ? things.get(thing).size() : things.get(thing).mark();
    }

    int trace(int i) {
        return i >= 0 && i < trace.size() ? trace.get(i) : NONE;
    }

    int count(int what) {
        int bales = 0;
        for (int s = 0; s < 4; s++) {
            bales += port[s];
            for (Mill m : mills) {
                bales += m.bales[s];
            }
        }
        int there = (int) java.util.Arrays.stream(sheets).filter(s -> s != null).count();
        int yarns = (int) things.stream().filter(t -> t instanceof Yarn).count();
        int[] counts = {there, mills.size(), homes.size(), ships.size(), rules.size(), things.size(), yarns, week,
            tape.length(), bales};
        return what < 0 || what > 9 ? BAD : counts[what];
    }

    int status() {
        return status;
    }
}
