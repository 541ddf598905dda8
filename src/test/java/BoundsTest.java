import java.util.HashMap;
import java.util.Map;
import java.util.function.Consumer;

/**
 * Every number that is told to a call of the face: the last one that is allowed on either side is taken, the first one
 * that is not is refused, and so are the least and the greatest of all numbers; a refused call changes nothing.
 */
public final class BoundsTest {
    private static final int NOW = County.NOW;
    private static final long NONE = CountyWatch.NONE;
    private static final long HIDDEN = CountyWatch.HIDDEN;
    private static final long FALSE = 0;
    private static final Consumer<CountyWatch> AS_IT_IS = x -> { };
    private static final Map<Consumer<CountyWatch>, long[]> WITHOUT = new HashMap<>();

    private interface Told {
        long answer(CountyWatch x, int number);
    }

    public static void main(String[] args) {
        countyIsAsTold();
        walks();
        texts();
        beats();
        minutes();
        points();
        finds();
        sightings();
        cases();
        statements();
        goods();
        plans();
        fairs();
        pay();
        marks();
        Due.finish("BoundsTest");
    }

    private static void countyIsAsTold() {
        CountyWatch x = County.make();
        int[] counts = {NOW, 3, County.MEN, County.BEATS, County.ROWS, 3, 1, 1, County.SIGHTINGS, County.CASES, 3, 2, 2, 2, 2,
            1, County.LINES};
        for (int what = 0; what < counts.length; what++) {
            Due.due("count(" + what + ") of the county", x.count(what), counts[what]);
        }
        int[] abouts = {0, 1, 3, 4, 1, 0};
        for (int m = 0; m < County.MEN; m++) {
            Due.due("about(" + m + ", 0) of the county", x.about(m, 0), abouts[m]);
        }
    }

    private static void number(String name, int least, int most, long refused, Told call) {
        number(name, AS_IT_IS, least, most, refused, call);
    }

    private static void number(String name, Consumer<CountyWatch> ready, int least, int most, long refused, Told call) {
        for (int allowed : new int[] {least, most}) {
            CountyWatch x = County.make();
            ready.accept(x);
            boolean taken = call.answer(x, allowed) != refused;
            Due.due(name + " " + allowed + " is taken", taken, true);
        }
        for (int wrong : new int[] {least - 1, most + 1, Integer.MIN_VALUE, Integer.MAX_VALUE}) {
            CountyWatch x = County.make();
            ready.accept(x);
            Due.due(name + " " + wrong, call.answer(x, wrong), refused);
            County.same(name + " " + wrong, County.answers(x), WITHOUT.computeIfAbsent(ready, BoundsTest::untold));
        }
    }

    private static long[] untold(Consumer<CountyWatch> ready) {
        CountyWatch x = County.make();
        ready.accept(x);
        return County.answers(x);
    }

    private static long yes(boolean answer) {
        return County.number(answer);
    }

    private static void walks() {
        number("path, one", 0, 15, NONE, (x, n) -> x.path(n, 7, 5));
        number("path, other", 0, 15, NONE, (x, n) -> x.path(7, n, 5));
        number("path, minutes", 1, 60, NONE, (x, n) -> x.path(2, 1, n));
        number("walk, from", 0, 15, NONE, (x, n) -> x.walk(n, 1));
        number("walk, to", 0, 15, NONE, (x, n) -> x.walk(1, n));
        number("constable, class", 1, 4, NONE, (x, n) -> x.constable(n, 5, 3));
        number("constable, years", 0, 40, NONE, (x, n) -> x.constable(1, n, 3));
        number("constable, home", 0, 15, NONE, (x, n) -> x.constable(1, 5, n));
    }

    private static void texts() {
        number("end", 0, 3, FALSE, (x, n) -> yes(x.end(n)));
        number("fault, a beat .. pay", x -> Due.put(x, ";"), 0, 2, -2, (x, n) -> x.fault(n));
        number("beaten, beat", 0, County.BEATS - 1, NONE, (x, n) -> x.beaten(n, 0));
        number("beaten, what", 0, 1, NONE, (x, n) -> x.beaten(1, n));
        number("act, day", BoundsTest::actOnTape, 0, 30, NONE, (x, n) -> x.act(n));
        number("pay, day", BoundsTest::payOnTape, 0, 30, NONE, (x, n) -> x.pay(n));
    }

    private static void actOnTape(CountyWatch x) {
        x.end(0);
        Due.put(x, "k=1?n");
    }

    private static void payOnTape(CountyWatch x) {
        x.end(0);
        Due.put(x, "c*7");
    }

    private static void beats() {
        number("begin, constable", 0, County.MEN - 1, FALSE, (x, n) -> yes(x.begin(n, 0)));
        number("begin, beat", 0, County.BEATS - 1, FALSE, (x, n) -> yes(x.begin(0, n)));
        number("draw, constable", 0, County.MEN - 1, FALSE, (x, n) -> yes(x.draw(n, 1, 1600)));
        number("draw, place", 0, 15, FALSE, (x, n) -> yes(x.draw(0, n, 1600)));
        number("draw, till", NOW, 30000, FALSE, (x, n) -> yes(x.draw(0, 1, n)));
        number("ill, constable", 0, County.MEN - 1, FALSE, (x, n) -> yes(x.ill(n, true)));
        number("about, constable", 0, County.MEN - 1, County.THROWN, (x, n) -> County.about(x, n, 0));
        number("about, what", 0, 8, County.THROWN, (x, n) -> County.about(x, 1, n));
    }

    private static void minutes() {
        number("tick", 0, 1500, NONE, (x, n) -> x.tick(n));
        number("was, constable", 0, County.MEN - 1, NONE, (x, n) -> x.was(n, NOW));
        number("was, minute", 0, NOW, NONE, (x, n) -> x.was(3, n));
        number("complain, constable", 0, County.MEN - 1, NONE, (x, n) -> x.complain(n, 1, 0, 20));
        number("complain, place", 0, 15, NONE, (x, n) -> x.complain(0, n, 0, 20));
        number("complain, from ahead of to", 0, 20, NONE, (x, n) -> x.complain(0, 1, n, 20));
        number("complain, from, 1,440 minutes", NOW - 1439, NOW, NONE, (x, n) -> x.complain(0, 1, n, NOW));
        number("complain, to up to now", 100, NOW, NONE, (x, n) -> x.complain(0, 1, 100, n));
        number("complain, to, 1,440 minutes", 10, 1449, NONE, (x, n) -> x.complain(0, 1, 10, n));
    }

    private static void points() {
        number("point, row", 0, County.ROWS - 1, NONE, (x, n) -> x.point(n, NOW, 0));
        number("point, q", 0, NOW, NONE, (x, n) -> x.point(0, n, 0));
        number("point, q as its beat begins", NOW, NOW, NONE, (x, n) -> x.point(County.ROWS - 1, n, 0));
        number("point, what", 0, 4, NONE, (x, n) -> x.point(0, NOW, n));
        number("cause, row", 0, County.ROWS - 1, FALSE, (x, n) -> yes(x.cause(n, 5)));
        number("cause, cause", 1, 9, FALSE, (x, n) -> yes(x.cause(0, n)));
        number("causes, cause", 1, 9, NONE, (x, n) -> x.causes(n, NOW));
        number("causes, q", 0, NOW, NONE, (x, n) -> x.causes(1, n));
    }

    private static void finds() {
        number("find, kind", 0, 9, NONE, (x, n) -> x.find(n, 1, 0, 50, 1));
        number("find, place", 0, 15, NONE, (x, n) -> x.find(1, n, 0, 50, 1));
        number("find, from", 0, 50, NONE, (x, n) -> x.find(1, 1, n, 50, 1));
        number("find, from at the end", 0, 20000, NONE, (x, n) -> x.find(1, 1, n, 20000, 1));
        number("find, to", 50, 20000, NONE, (x, n) -> x.find(1, 1, 50, n, 1));
        number("find, to at the beginning", 0, 20000, NONE, (x, n) -> x.find(1, 1, 0, n, 1));
        number("find, weight", 1, 9, NONE, (x, n) -> x.find(1, 1, 0, 50, n));
        number("force, day", 0, 30, NONE, (x, n) -> x.force(n, NOW));
        number("force, q", 0, NOW, NONE, (x, n) -> x.force(0, n));
    }

    private static void sightings() {
        number("sighting", 0, County.SIGHTINGS - 1, NONE, (x, n) -> x.sighting(n, 0));
        number("sighting, what", 0, 5, NONE, (x, n) -> x.sighting(1, n));
        number("should, sighting", 0, County.SIGHTINGS - 1, NONE, (x, n) -> x.should(n, NOW));
        number("should, q", 11, NOW, NONE, (x, n) -> x.should(0, n));
        number("heard, q", 0, NOW, NONE, (x, n) -> x.heard(n));
    }

    private static void cases() {
        number("open, kind", 0, 9, NONE, (x, n) -> x.open(n));
        number("need, kind", 0, 9, FALSE, (x, n) -> yes(x.need(n, 7)));
        number("need, facts", 0, 255, FALSE, (x, n) -> yes(x.need(3, n)));
        number("want, fact", 0, 7, FALSE, (x, n) -> yes(x.want(n, 2)));
        number("want, many", 1, 3, FALSE, (x, n) -> yes(x.want(0, n)));
        number("fact, case", 0, County.CASES - 1, NONE, (x, n) -> x.fact(n, 0, NOW));
        number("fact, fact", 0, 7, NONE, (x, n) -> x.fact(0, n, NOW));
        number("fact, q", 0, NOW, NONE, (x, n) -> x.fact(0, 0, n));
        number("fact, q as the case is opened", 11, NOW, NONE, (x, n) -> x.fact(2, 0, n));
        number("cased, case", 0, County.CASES - 1, NONE, (x, n) -> x.cased(n, NOW, 0));
        number("cased, q", 0, NOW, NONE, (x, n) -> x.cased(0, n, 0));
        number("cased, q as the case is opened", 11, NOW, NONE, (x, n) -> x.cased(2, n, 3));
        number("cased, what", 0, 4, NONE, (x, n) -> x.cased(0, NOW, n));
    }

    private static void lastCaseHasStories(CountyWatch x) {
        x.story(2, 2, 8);
        x.story(2, 8, 2);
    }

    private static void statements() {
        number("state, case", 0, County.CASES - 1, NONE, (x, n) -> x.state(n, 1, 1, true));
        number("state, fact", 0, 7, NONE, (x, n) -> x.state(0, n, 1, false));
        number("state, witness", 0, 15, NONE, (x, n) -> x.state(0, 1, n, true));
        number("withdraw, witness", 0, 15, NONE, (x, n) -> x.withdraw(n));
        number("story, case", 0, County.CASES - 1, NONE, (x, n) -> x.story(n, 1, 2));
        number("story, so", 0, 255, NONE, (x, n) -> x.story(0, n, 0));
        number("story, not", 0, 255, NONE, (x, n) -> x.story(0, 0, n));
        number("next, case", BoundsTest::lastCaseHasStories, 0, County.CASES - 1, NONE, (x, n) -> x.next(n));
    }

    private static void goods() {
        number("good, lost, marks", 0, 99999, NONE, (x, n) -> x.good(true, n));
        number("good, found, marks", 0, 99999, NONE, (x, n) -> x.good(false, n));
        number("least", 1, 5, FALSE, (x, n) -> yes(x.least(n)));
        number("joined", 0, 1, NONE, (x, n) -> x.joined(n));
        number("rivals", 0, 1, NONE, (x, n) -> x.rivals(n));
        number("sure", 0, 1, NONE, (x, n) -> x.sure(n));
    }

    private static void plans() {
        number("watch, place", 0, 15, NONE, (x, n) -> x.watch(n, 5, 9));
        number("watch, from", 0, 9, NONE, (x, n) -> x.watch(1, n, 9));
        number("watch, from at the end", 0, 1440, NONE, (x, n) -> x.watch(1, n, 1440));
        number("watch, to", 9, 1440, NONE, (x, n) -> x.watch(1, 9, n));
        number("watch, to at the beginning", 0, 1440, NONE, (x, n) -> x.watch(1, 0, n));
        number("sees, beat", 0, County.BEATS - 1, NONE, (x, n) -> x.sees(n, 0));
        number("sees, watch", 0, 1, NONE, (x, n) -> x.sees(0, n));
        number("safe, beats", 1, (1 << County.BEATS) - 1, NONE, (x, n) -> x.safe(n));
        number("share, beats", 1, (1 << County.BEATS) - 1, NONE, (x, n) -> x.share(n, 0));
        number("share, beat", 0, County.BEATS - 1, NONE, (x, n) -> x.share((1 << County.BEATS) - 1, n));
        number("count", 0, 18, NONE, (x, n) -> x.count(n));
    }

    private static void fairs() {
        number("fair, place", 0, 15, NONE, (x, n) -> x.fair(n, 2000, 1));
        number("fair, minute", 0, 30000, NONE, (x, n) -> x.fair(1, n, 1));
        number("fair, wanted", 1, 3, NONE, (x, n) -> x.fair(1, 2000, n));
        number("lending, what", 0, 1, NONE, (x, n) -> x.lending(n));
        number("lent, constable", 0, County.MEN - 1, NONE, (x, n) -> x.lent(n));
    }

    private static void pay() {
        number("rank, constable", 0, County.MEN - 1, FALSE, (x, n) -> yes(x.rank(n, 4, 0)));
        number("rank, class", 1, 4, FALSE, (x, n) -> yes(x.rank(0, n, 0)));
        number("rank, day", 0, 30, FALSE, (x, n) -> yes(x.rank(0, 4, n)));
        number("ranked, constable", 0, County.MEN - 1, NONE, (x, n) -> x.ranked(n, 0, NOW));
        number("ranked, day", 0, 30, NONE, (x, n) -> x.ranked(0, n, NOW));
        number("ranked, q", 0, NOW, NONE, (x, n) -> x.ranked(0, 0, n));
        number("paid, constable", 0, County.MEN - 1, NONE, (x, n) -> x.paid(n, 0, NOW));
        number("paid, day", 0, 0, NONE, (x, n) -> x.paid(0, n, NOW));
        number("paid, q", 1440, NOW, NONE, (x, n) -> x.paid(0, 0, n));
        number("line", 0, County.LINES - 1, HIDDEN, (x, n) -> x.line(n, 0));
        number("line, what", 0, 3, HIDDEN, (x, n) -> x.line(0, n));
    }

    private static void marks() {
        number("mark, inspector", 0, 3, FALSE, (x, n) -> yes(x.mark(n, 0, 5)));
        number("mark, constable", 0, County.MEN - 1, FALSE, (x, n) -> yes(x.mark(0, n, 5)));
        number("mark, marks", 0, 10, FALSE, (x, n) -> yes(x.mark(0, 0, n)));
        number("size", 1, 12, FALSE, (x, n) -> yes(x.size(n)));
        number("habit, one", BoundsTest::markedByAll, 0, 3, HIDDEN, (x, n) -> x.habit(n, 1));
        number("habit, other", BoundsTest::markedByAll, 0, 3, HIDDEN, (x, n) -> x.habit(1, n));
    }

    private static void markedByAll(CountyWatch x) {
        for (int inspector = 0; inspector < 4; inspector++) {
            for (int m = 3; m < 6; m++) {
                x.mark(inspector, m, 10 - inspector);
            }
        }
    }
}
