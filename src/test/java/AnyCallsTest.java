/**
 * Runs of calls with arguments of all sorts, by a counter of its own and so the same each time: no call may throw,
 * two objects answer alike, and what is refused or found changes nothing but status().
 */
public final class AnyCallsTest {
    // Some of the calls are made of up to ten, so that an object stays within its 512.
    private static final int RUNS = 1500, CALLS = 360, CALLS_LOOKED_AT = 60;
    private static final String[] WORDS = {"from", "piece", "relief", "limit", "bread", "first", ";", " ", "\n", "0",
        "1", "2", "3", "4", "12", "99", "100", "9999", "12345", "x", "-"};

    private static long seed = 1;

    public static void main(String[] args) {
        for (int run = 0; run < RUNS; run++) {
            answersAlike();
        }
        for (int run = 0; run < RUNS; run++) {
            refusalsChangeNothing();
        }
        Due.end();
    }

    private static int below(int n) {
        seed = seed * 6364136223846793005L + 1442695040888963407L;
        return (int) ((seed >>> 33) % n);
    }

    private static int any() {
        int[] edges = {0, -1, 1, Integer.MAX_VALUE, Integer.MIN_VALUE, CottonWeeks.NONE, 80, 81, 99, 100, 999, 1000,
            9999, 10000, 500, 501, 5000, 5001};
        switch (below(8)) {
            case 0:
                return edges[below(edges.length)];
            case 1:
                return below(1200);
            case 2:
                return below(100);
            default:
                return below(6);
        }
    }

    private static void answersAlike() {
        CottonWeeks a = new CottonWeeks();
        CottonWeeks b = new CottonWeeks();
        for (int call = 0; call < CALLS; call++) {
            int which = below(34);
            int[] v = {any(), any(), any(), any(), any()};
            long w = text();
            Due.due("call " + which, call(a, which, v, w), call(b, which, v, w));
        }
    }

    private static void refusalsChangeNothing() {
        CottonWeeks x = new CottonWeeks();
        CottonWeeks y = new CottonWeeks();
        for (int call = 0; call < CALLS_LOOKED_AT; call++) {
            int which = below(33);
            int[] v = {any(), any(), any(), any(), any()};
            long w = text();
            int answer = call(x, which, v, w);
            // set() may answer a number of its own that looks like a refusal; lists() empties the tape.
            boolean refused = answer <= CottonWeeks.BAD && answer >= -1000015 && which != 1;
            if (!refused) {
                Due.due("call " + which, call(y, which, v, w), answer);
            }
        }
        int part = below(Seen.LOOKS);
        int[] got = Seen.look(x, part);
        int[] want = Seen.look(y, part);
        // The first is status(), which a FINDING may change.
        want[0] = got[0];
        Due.dueRow("seen", got, want);
    }

    private static long text() {
        StringBuilder text = new StringBuilder();
        while (text.length() < 8) {
            text.append(WORDS[below(WORDS.length)]);
            text.append(below(4) == 0 ? "" : " ");
        }
        long w = 0;
        for (int k = 0; k < 8; k++) {
            w = w << 8 | text.charAt(k);
        }
        return w;
    }

    private static int list(CottonWeeks x, int[] v) {
        StringBuilder text = new StringBuilder("from " + (v[0] & 127));
        for (int k = 0; k < 3; k++) {
            String[] rules = {" piece " + (v[k] & 3), " relief", " limit", " bread", " first"};
            text.append(rules[(v[k + 1] & 0xFFFF) % 5]).append(' ').append((v[k + 2] & 0xFFFF) % 101);
        }
        text.append(';');
        x.lists();
        return Due.read(x, text.toString());
    }

    private static int call(CottonWeeks x, int which, int[] v, long w) {
        switch (which) {
            case 0: return x.sheet(v[0], v[1], v[2]);
            case 1: return x.set(v[0], v[1], v[2]);
            case 2: return x.copy(v[0], v[1], v[2], v[3], v[4]);
            case 3: return x.drop(v[0]);
            case 4: return x.stuff(v[0], v[1], v[2]);
            case 5: return x.ship(v[0], v[1], v[2], v[3]);
            case 6: return x.mill(v[0], v[1], v[2], v[3]);
            case 7: return x.stock(v[0], v[1], v[2]);
            case 8: return x.told(v[0], v[1]);
            case 9: return x.step(v[0]);
            case 10: return x.ran(v[0], v[1]);
            case 11: return x.price(v[0], v[1]);
            case 12: return x.feed(w, v[0]);
            case 13: return x.lists();
            case 14: return x.fault();
            case 15: return x.holds(v[0], v[1]);
            case 16: return x.first(v[0], v[1]);
            case 17: return x.home(v[0], v[1]);
            case 18: return x.house(v[0], v[1]);
            case 19: return x.paid(v[0], v[1], v[2], v[3]);
            case 20: return x.thing(v[0], v[1], (v[3] & 1) == 0 ? CottonWeeks.NONE : v[2]);
            case 21: return x.works(v[0], v[1], v[2], v[3], v[4]);
            case 22: return x.news(v[0], v[1], v[2], v[3]);
            case 23: return x.known(v[0], v[1]);
            case 24: return x.kind(v[0]);
            case 25: return x.as(v[0], v[1]);
            case 26: return x.ask(v[0], v[1]);
            case 27: return x.trace(v[0]);
            case 28: return x.count(v[0]);
            case 29: return x.sheet(v[0] & 7, 2, 80);
            case 30: return x.thing(v[0] & 1, v[1] & 511, CottonWeeks.NONE);
            case 31: return x.mill(1 + (v[0] & 15), 1 + (v[1] & 7), v[2], v[3]);
            case 32: return list(x, v);
            default: return x.status();
        }
    }
}
