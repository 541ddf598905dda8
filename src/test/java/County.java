import java.util.Arrays;
import java.util.function.Consumer;
import java.util.function.ToLongFunction;

/** A county in which there is some of everything, and what it answers: to see that a refused call changes nothing. */
final class County {
    /** What about answers where it throws NoSuchElementException. */
    static final long THROWN = Long.MIN_VALUE;
    static final int NOW = 1500;
    static final int MEN = 6;
    static final int BEATS = 5;
    static final int ROWS = 6;
    static final int SIGHTINGS = 3;
    static final int CASES = 3;
    static final int LINES = 7;
    /** An object is promised 512 calls: those that make the county and those of its answers stay below. */
    private static final int MOST_ANSWERS = 380;

    private final CountyWatch x;
    private final long[] answers = new long[MOST_ANSWERS];
    private int many;

    private County(CountyWatch x) {
        this.x = x;
    }

    /** Constables 0 and 5 are FREE, 1 and 4 on a BEAT, 2 DRAWN and on its way, 3 ILL. */
    static CountyWatch make() {
        CountyWatch x = new CountyWatch();
        x.path(0, 1, 10);
        x.path(1, 2, 5);
        x.path(2, 15, 7);
        x.constable(2, 5, 0);
        x.constable(1, 0, 1);
        x.constable(4, 40, 15);
        x.constable(3, 7, 0);
        x.constable(1, 1, 2);
        x.constable(2, 9, 0);
        texts(x);
        x.find(3, 1, 5, 50, 2);
        x.find(5, 1, 0, 2000, 9);
        x.find(4, 1, 11, 11, 1);
        cases(x);
        x.begin(1, 1);
        x.begin(0, 0);
        x.tick(20);
        x.withdraw(9);
        plans(x);
        x.tick(1470);
        x.book();
        x.rank(0, 3, 0);
        x.tick(10);
        x.book();
        x.begin(1, 0);
        x.draw(2, 1, 1600);
        x.ill(3, true);
        x.begin(4, 4);
        x.begin(4, 3);
        x.fair(1, 1520, 1);
        x.fair(15, 30000, 2);
        Due.put(x, "l;l");
        return x;
    }

    private static void texts(CountyWatch x) {
        Due.beat(x, "g 1;l;p 2 40;w 5;l");
        Due.beat(x, "p 9 5;p 1 5;p 15 100;w 240");
        Due.beat(x, "l");
        Due.beat(x, "w 240;w 240");
        Due.beat(x, "p 9 0");
        Due.act(x, "k=3?n;k=5?t;k=4?r", 0);
        Due.pay(x, "c*100+y+m*10-x", 0);
    }

    private static void cases(CountyWatch x) {
        x.need(3, 5);
        x.open(3);
        x.open(4);
        x.state(0, 0, 1, true);
        x.state(0, 2, 2, false);
        x.state(1, 0, 9, true);
        for (int of = 0; of < 2; of++) {
            x.story(of, 2, 8);
            x.story(of, 8, 2);
        }
    }

    private static void plans(CountyWatch x) {
        x.good(true, 12345);
        x.good(true, 12399);
        x.good(false, 12344);
        x.good(false, 12395);
        x.watch(1, 10, 12);
        x.watch(0, 0, 40);
        for (int m = 0; m < 3; m++) {
            x.mark(0, m, 8);
            x.mark(3, m, 5 + m);
        }
    }

    static long about(CountyWatch x, int constable, int what) {
        try {
            return x.about(constable, what);
        } catch (java.util.NoSuchElementException e) {
            return THROWN;
        }
    }

    /** What all calls that only ask answer now, and some of them an hour later. */
    static long[] answers(CountyWatch x) {
        County county = new County(x);
        county.askOfWalks();
        county.askOfMen(8);
        county.askOfPoints();
        county.askOfLooks();
        county.askOfCases();
        county.askOfPlans();
        county.askOfPay();
        county.add(x.tick(60));
        county.askOfMen(4);
        county.add(x.book());
        county.add(x.count(4));
        county.add(x.count(8));
        county.add(x.count(17));
        return Arrays.copyOf(county.answers, county.many);
    }

    private void add(long answer) {
        if (many < MOST_ANSWERS) {
            answers[many] = answer;
        }
        many++;
        Due.due("few enough answers", many <= MOST_ANSWERS, true);
    }

    private void askOfWalks() {
        for (int what = 0; what <= 18; what++) {
            add(x.count(what));
        }
        for (int place = 0; place < 16; place++) {
            add(x.walk(0, place));
        }
        for (int sort = 0; sort < 3; sort++) {
            add(x.fault(sort));
        }
        for (int beat = 0; beat < Math.min(x.count(3), BEATS); beat++) {
            add(x.beaten(beat, 0));
            add(x.beaten(beat, 1));
        }
    }

    private void askOfMen(int last) {
        for (int m = 0; m < Math.min(x.count(2), MEN); m++) {
            for (int what = 0; what <= last; what++) {
                add(about(x, m, what));
            }
        }
    }

    private void askOfPoints() {
        int now = x.count(0);
        for (int i = 0; i < Math.min(x.count(4), ROWS); i++) {
            add(x.point(i, now, 3));
            add(x.point(i, now, 4));
        }
        for (int cause = 1; cause <= 9; cause++) {
            add(x.causes(cause, now));
        }
        for (int m = 0; m < Math.min(x.count(2), MEN); m++) {
            add(x.was(m, 0));
            add(x.was(m, now));
            add(x.complain(m, 1, now, now));
        }
    }

    private void askOfLooks() {
        int now = x.count(0);
        add(x.force(0, now));
        add(x.force(30, now));
        add(x.heard(now));
        for (int i = 0; i < Math.min(x.count(8), SIGHTINGS); i++) {
            for (int what = 0; what < 6; what++) {
                add(x.sighting(i, what));
            }
            add(x.should(i, now));
        }
    }

    private void askOfCases() {
        int now = x.count(0);
        for (int of = 0; of < Math.min(x.count(9), CASES); of++) {
            for (int what = 0; what < 5; what++) {
                add(x.cased(of, now, what));
            }
            for (int fact = 0; fact < 8; fact++) {
                add(x.fact(of, fact, now));
            }
            add(x.next(of));
        }
    }

    private void askOfPlans() {
        add(x.joining());
        for (int lost = 0; lost < 2; lost++) {
            add(x.joined(lost));
            add(x.rivals(lost));
            add(x.sure(lost));
        }
        add(x.safe(7));
        for (int beat = 0; beat < 3; beat++) {
            add(x.share(7, beat));
            add(x.sees(beat, 0));
            add(x.sees(beat, 1));
        }
        add(x.lending(0));
        add(x.lending(1));
        for (int m = 0; m < MEN; m++) {
            add(x.lent(m));
        }
    }

    private void askOfPay() {
        int now = x.count(0);
        for (int m = 0; m < MEN; m++) {
            add(x.ranked(m, 0, now));
            add(x.ranked(m, 30, now));
            add(x.paid(m, 0, now));
        }
        for (int i = 0; i < 2; i++) {
            add(x.line(i, 2));
            add(x.line(x.count(16) - 1, i));
        }
        add(x.habit(0, 3));
        add(x.habit(1, 2));
    }

    static void same(String name, long[] got, long[] want) {
        Due.due(name + ": how many answers behind it", got.length, want.length);
        for (int i = 0; i < Math.min(got.length, want.length); i++) {
            Due.due(name + ": answer " + i + " behind it", got[i], want[i]);
        }
    }

    /** A call of a county made ready is refused, and what the calls behind it answer is as without it. */
    static void refused(String name, Consumer<CountyWatch> ready, ToLongFunction<CountyWatch> call, long answer) {
        CountyWatch told = make();
        CountyWatch other = make();
        ready.accept(told);
        ready.accept(other);
        Due.due(name, call.applyAsLong(told), answer);
        same(name, answers(told), answers(other));
    }

    static long number(boolean yes) {
        return yes ? 1 : 0;
    }
}
