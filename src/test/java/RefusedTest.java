import java.util.function.Consumer;
import java.util.function.ToLongFunction;

/** Calls that are refused not for a number out of bounds but for how things are: they change nothing. */
public final class RefusedTest {
    private static final long NONE = CountyWatch.NONE;
    private static final long HIDDEN = CountyWatch.HIDDEN;
    private static final long FALSE = 0;
    private static final Consumer<CountyWatch> AS_IT_IS = x -> { };

    public static void main(String[] args) {
        walks();
        texts();
        beginning();
        drawing();
        illness();
        points();
        windows();
        cases();
        plans();
        pay();
        Due.finish("RefusedTest");
    }

    private static void refused(String name, long answer, ToLongFunction<CountyWatch> call) {
        County.refused(name, AS_IT_IS, call, answer);
    }

    private static void refused(String name, Consumer<CountyWatch> ready, long answer, ToLongFunction<CountyWatch> call) {
        County.refused(name, ready, call, answer);
    }

    private static long yes(boolean answer) {
        return County.number(answer);
    }

    private static void walks() {
        for (int place = 0; place < 16; place++) {
            int alike = place;
            refused("path from " + place + " to itself", NONE, x -> x.path(alike, alike, 5));
        }
        refused("no walk", NONE, x -> x.walk(0, 3));
        refused("no walk back", NONE, x -> x.walk(3, 0));
    }

    private static void texts() {
        refused("feed above 160", RefusedTest::tapeOf158, NONE, x -> x.feed(0x6C, 0, 0x6C, 0, 0x6C));
        refused("beat of a fault", x -> Due.put(x, ";"), NONE, x -> x.beat());
        refused("beat of an empty tape", x -> x.end(0), NONE, x -> x.beat());
        refused("beat of 151 steps", x -> Due.put(x, ";((l)15)10"), NONE, x -> x.beat());
        refused("act of a fault", NONE, x -> x.act(0));
        refused("act of an empty tape", x -> x.end(0), NONE, x -> x.act(0));
        refused("pay of a fault", NONE, x -> x.pay(0));
        refused("pay of an empty tape", x -> x.end(0), NONE, x -> x.pay(0));
    }

    private static void tapeOf158(CountyWatch x) {
        x.end(0);
        Due.put(x, "l;".repeat(79));
    }

    /** Constable 5 is going HOME. */
    private static void goingHome(CountyWatch x) {
        Due.beat(x, "g 1");
        x.begin(5, County.BEATS);
        x.tick(15);
    }

    private static void beginning() {
        refused("begin, on a beat and looking", FALSE, x -> yes(x.begin(1, 0)));
        refused("begin, on a beat and waiting", FALSE, x -> yes(x.begin(4, 2)));
        refused("begin, drawn", FALSE, x -> yes(x.begin(2, 0)));
        refused("begin, ill", FALSE, x -> yes(x.begin(3, 0)));
        refused("begin, going home", RefusedTest::goingHome, FALSE, x -> yes(x.begin(5, 0)));
        Due.due("begin, free", County.make().begin(5, 0), true);
    }

    private static void drawing() {
        refused("draw, on its way to where it is drawn", FALSE, x -> yes(x.draw(2, 2, 1700)));
        refused("draw, there", x -> x.tick(20), FALSE, x -> yes(x.draw(2, 2, 1700)));
        refused("draw, ill", FALSE, x -> yes(x.draw(3, 1, 1600)));
        refused("draw, no walk", FALSE, x -> yes(x.draw(0, 3, 1600)));
        refused("draw, no walk from home, though it is on a beat", FALSE, x -> yes(x.draw(1, 3, 1600)));
        refused("draw, till the minute that is over", FALSE, x -> yes(x.draw(1, 2, County.NOW - 1)));
        CountyWatch x = County.make();
        goingHome(x);
        Due.due("draw, going home", x.draw(5, 2, 1600), true);
        Due.due("draw, free", x.draw(0, 2, 1600), true);
        Due.due("draw, on a beat", x.draw(4, 2, 1600), true);
    }

    private static void illness() {
        refused("ill, it is", FALSE, x -> yes(x.ill(3, true)));
        refused("well, it is free", FALSE, x -> yes(x.ill(0, false)));
        refused("well, it is on a beat", FALSE, x -> yes(x.ill(1, false)));
        refused("well, it is drawn", FALSE, x -> yes(x.ill(2, false)));
        refused("well, it is going home", RefusedTest::goingHome, FALSE, x -> yes(x.ill(5, false)));
        CountyWatch x = County.make();
        goingHome(x);
        for (int m = 0; m < County.MEN; m++) {
            Due.due("ill " + m, x.ill(m, true), m != 3);
            Due.due("at home " + m, x.about(m, 1), x.about(m, 8));
            Due.due("well " + m, x.ill(m, false), true);
            Due.due("free " + m, x.about(m, 0), 0);
        }
    }

    private static void points() {
        refused("cause of one that is met", FALSE, x -> yes(x.cause(1, 5)));
        refused("cause of one that is open", FALSE, x -> yes(x.cause(4, 5)));
        refused("a row that began behind q", NONE, x -> x.point(4, County.NOW - 1, 0));
        refused("no cause of one that is met", NONE, x -> x.point(1, County.NOW, 4));
        refused("no cause of one that is open", NONE, x -> x.point(4, County.NOW, 4));
        refused("was, on its way", NONE, x -> x.was(2, County.NOW));
        refused("was, not told by then", x -> x.constable(1, 1, 1), NONE, x -> x.was(County.MEN, County.NOW - 1));
        refused("tick above 20,000", x -> Due.until(x, 19000), NONE, x -> x.tick(1001));
    }

    private static void windows() {
        refused("find, from behind to", NONE, x -> x.find(1, 1, 51, 50, 1));
        refused("find, from behind to at the end", NONE, x -> x.find(1, 1, 20000, 19999, 1));
        refused("watch, from behind to", NONE, x -> x.watch(1, 41, 40));
        refused("watch, from behind to at the end", NONE, x -> x.watch(1, 1440, 1439));
        refused("complain, from behind to", NONE, x -> x.complain(0, 1, 21, 20));
        refused("should ahead of its minute", NONE, x -> x.should(0, 10));
        refused("no case of a sighting", NONE, x -> x.sighting(0, 4));
        CountyWatch x = new CountyWatch();
        Due.act(x, "k=1?n", 3);
        Due.due("force for the day ahead of it", x.force(2, 0), NONE);
        Due.due("force for its day", x.force(3, 0), 0);
        Due.due("force for the last day", x.force(30, 0), 0);
    }

    private static void cases() {
        refused("a statement of one that is withdrawn", NONE, x -> x.state(0, 0, 9, true));
        refused("withdrawn already", NONE, x -> x.withdraw(9));
        refused("a story with a fact in both", NONE, x -> x.story(0, 5, 4));
        refused("a story with all in both", NONE, x -> x.story(0, 255, 255));
        refused("a story with the last one in both", NONE, x -> x.story(0, 128, 255));
        refused("a seventh story", RefusedTest::sixStories, NONE, x -> x.story(0, 1, 2));
        refused("next of a case without stories", NONE, x -> x.next(2));
        refused("a fact ahead of its case", NONE, x -> x.fact(2, 0, 10));
        refused("cased ahead of it", NONE, x -> x.cased(2, 10, 2));
        Due.due("a story with none in either", County.make().story(0, 0, 0), 2);
        Due.due("a story with all of them", County.make().story(0, 0xAA, 0x55), 2);
    }

    private static void sixStories(CountyWatch x) {
        for (int i = 0; i < 4; i++) {
            x.story(0, 1, 2);
        }
    }

    private static void plans() {
        refused("share of one that is none of them", NONE, x -> x.share(5, 1));
        refused("share of beats of which one is not there", NONE, x -> x.share(1 << County.BEATS | 1, 0));
        refused("safe of beats of which one is not there", NONE, x -> x.safe(1 << County.BEATS | 1));
        refused("safe of six beats", x -> Due.beat(x, "l"), NONE, x -> x.safe(63));
        refused("share of six beats", x -> Due.beat(x, "l"), NONE, x -> x.share(63, 0));
        refused("lending, a fair that nobody can reach", x -> x.fair(3, 30000, 1), NONE, x -> x.lending(0));
        refused("lending, a minute that is over", x -> x.fair(0, County.NOW - 1, 1), NONE, x -> x.lending(1));
        refused("lent, there is no lending", x -> x.fair(3, 30000, 1), NONE, x -> x.lent(0));
        refused("lent, drawn", NONE, x -> x.lent(2));
        refused("lent, ill", NONE, x -> x.lent(3));
        refused("joined to none", x -> x.good(true, 0), NONE, x -> x.joined(2));
    }

    private static void pay() {
        refused("paid of today", NONE, x -> x.paid(0, 1, County.NOW));
        refused("paid of a day that was not over", NONE, x -> x.paid(0, 0, 1439));
        for (int inspector = 0; inspector < 4; inspector++) {
            int alike = inspector;
            refused("habit against itself", HIDDEN, x -> x.habit(alike, alike));
        }
        refused("habit of fewer than three", x -> x.mark(1, 0, 5), HIDDEN, x -> x.habit(0, 1));
        refused("habit of three, four are wanted", x -> x.size(4), HIDDEN, x -> x.habit(0, 3));
        Due.due("habit of three", County.make().habit(0, 3), 3 + 2 + 1);
    }
}
