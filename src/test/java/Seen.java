/**
 * All that can be seen of an object, in LOOKS parts. Each part makes some 220 calls at most, so that an object stays
 * within its 512, and may change the object: each needs one of its own that came to be in the same way.
 */
final class Seen {
    static final int LOOKS = 5;

    private static final int MOST = 220;
    private static final int[] WEEKS = {0, 1, 2, 3, 5, 10, 50, 99};

    private final CottonWeeks x;
    private final int[] answers = new int[MOST];
    private int many;

    private Seen(CottonWeeks x) {
        this.x = x;
    }

    static int[] look(CottonWeeks x, int which) {
        Seen seen = new Seen(x);
        seen.note(x.status());
        switch (which) {
            case 0:
                seen.county();
                break;
            case 1:
                seen.lists();
                break;
            case 2:
                seen.homesAndNews();
                break;
            case 3:
                seen.sheets();
                break;
            default:
                seen.whatComes();
                break;
        }
        return seen.answers;
    }

    private void note(int answer) {
        answers[many] = answer;
        many++;
    }

    private void county() {
        for (int what = 0; what < 10; what++) {
            note(x.count(what));
            for (int m = 0; m < 6; m++) {
                note(x.told(m, what));
            }
        }
        for (int m = 0; m < 6; m++) {
            for (int week : WEEKS) {
                note(x.ran(m, week));
            }
        }
        for (int sort = 0; sort < 4; sort++) {
            note(x.price(sort, 0));
            note(x.price(sort, 1));
        }
        for (int sort = 0; sort < 4; sort++) {
            for (int what = 0; what < 5; what++) {
                note(x.stuff(sort, what, 1));
            }
        }
        for (int t = 0; t < 17; t++) {
            note(x.trace(t));
            note(x.kind(t));
        }
    }

    private void lists() {
        note(x.fault());
        for (int week : WEEKS) {
            for (int what = 0; what < 14; what++) {
                note(x.holds(week, what));
            }
            for (int i = 0; i < 4; i++) {
                note(x.first(week, i));
            }
        }
        note(x.feed('7' << 8 | ';', 2));
        note(x.lists());
        note(x.fault());
        note(x.count(8));
        for (int week : WEEKS) {
            for (int what = 0; what < 7; what++) {
                note(x.holds(week, what));
            }
        }
    }

    private void homesAndNews() {
        for (int h = 0; h < 12; h++) {
            for (int what = 0; what <= 10; what++) {
                note(x.house(h, what));
            }
        }
        for (int town = 0; town < 4; town++) {
            for (int week : WEEKS) {
                note(x.known(town, week));
            }
        }
        for (int t = 0; t < 16; t++) {
            note(x.as(t, 0));
            note(x.ask(t, 0));
            note(x.ask(t, 1));
        }
        note(x.news(0, 0, 0, 0));
    }

    /** ITEMS from 1 to 100 are seen as a cost, LANES by a number that is too large for two of them. */
    private void sheets() {
        for (int s = 0; s < 8; s++) {
            for (int i = 0; i < 12; i++) {
                note(x.works(s, i, 1, 500, 1));
                note(x.works(s, i, 1, 500, 2));
            }
            note(x.set(s, 0, 100000));
            note(x.home(s, 0));
            note(x.drop(s));
        }
    }

    private void whatComes() {
        note(x.mill(1, 15, 0, 0));
        note(x.ship(50, 0, 1, 1));
        note(x.thing(0, 0, Due.NONE));
        for (int k = 0; k < 5; k++) {
            note(x.step(20));
            note(x.count(9));
            if (k == 0 || k == 4) {
                millsAndHomes();
            }
        }
    }

    private void millsAndHomes() {
        for (int m = 0; m < 6; m++) {
            note(x.told(m, 4));
            note(x.told(m, 8));
            note(x.told(m, 9));
        }
        for (int h = 0; h < 12; h++) {
            note(x.house(h, 3));
            note(x.house(h, 9));
            note(x.house(h, 10));
        }
    }
}
