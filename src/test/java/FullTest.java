import java.util.function.ToLongFunction;

/** None and the full number of all that a county keeps: what is above is refused, and changes nothing. */
public final class FullTest {
    private static final int NONE = CountyWatch.NONE;
    private static final int HIDDEN = CountyWatch.HIDDEN;

    public static void main(String[] args) {
        nothingIsThere();
        nobodyIsThere();
        paths();
        constables();
        tape();
        beats();
        longestBeats();
        longBeatsAreNotMixed();
        rows();
        rowsAreAllPaid();
        causes();
        finds();
        acts();
        twelveInOnePlace();
        sightings();
        sightingsAreAllPaid();
        casesByHand();
        casesByTaking();
        statements();
        withdrawalFromAllCases();
        stories();
        goods();
        watches();
        sharing();
        fairs();
        pays();
        ranks();
        lines();
        lastMinute();
        Due.finish("FullTest");
    }

    private static void none(String call, long got) {
        Due.due(call + " of a new object", got, NONE);
    }

    private static void nothingIsThere() {
        CountyWatch x = new CountyWatch();
        for (int what = 0; what <= 18; what++) {
            Due.due("count(" + what + ") of a new object", x.count(what), 0);
        }
        for (int place = 0; place < 16; place++) {
            Due.due("walk to itself", x.walk(place, place), 0);
            none("walk", x.walk(place, (place + 1) % 16));
        }
        for (int sort = 0; sort < 3; sort++) {
            Due.due("fault of an empty tape", x.fault(sort), 0);
        }
        Due.due("end(0)", x.end(0), true);
        Due.due("end(1)", x.end(1), false);
        none("beat", x.beat());
        none("act", x.act(0));
        none("pay", x.pay(0));
        none("beaten", x.beaten(0, 0));
        none("point", x.point(0, 0, 0));
        Due.due("cause", x.cause(0, 1), false);
        Due.due("causes", x.causes(1, 0), 0);
        none("force", x.force(0, 0));
        none("sighting", x.sighting(0, 0));
        none("should", x.should(0, 0));
        Due.due("heard", x.heard(0), 0);
        none("fact", x.fact(0, 0, 0));
        none("cased", x.cased(0, 0, 0));
        none("story", x.story(0, 0, 0));
        none("state", x.state(0, 0, 0, true));
        none("next", x.next(0));
        Due.due("withdraw of one of no case", x.withdraw(0), 0);
        Due.due("joining", x.joining(), 0);
        none("joined", x.joined(0));
        none("rivals", x.rivals(0));
        none("sure", x.sure(0));
        none("sees", x.sees(0, 0));
        none("safe", x.safe(1));
        none("share", x.share(1, 0));
        Due.due("line", x.line(0, 0), HIDDEN);
    }

    private static void nobodyIsThere() {
        CountyWatch x = new CountyWatch();
        Due.throwsAbout(x, 0, 0);
        Due.due("begin", x.begin(0, 0), false);
        Due.due("draw", x.draw(0, 0, 0), false);
        Due.due("ill", x.ill(0, true), false);
        Due.due("well", x.ill(0, false), false);
        none("was", x.was(0, 0));
        none("complain", x.complain(0, 0, 0, 0));
        Due.due("rank", x.rank(0, 1, 0), false);
        none("ranked", x.ranked(0, 0, 0));
        none("paid", x.paid(0, 0, 0));
        Due.due("mark", x.mark(0, 0, 0), false);
        Due.due("habit", x.habit(0, 1), HIDDEN);
        Due.due("lending of none to none", x.lending(0), 0);
        Due.due("lending of none to none", x.lending(1), 0);
        none("lent", x.lent(0));
        Due.due("book", x.book(), 0);
        x.fairs();
        Due.due("no fairs", x.count(14), 0);
        Due.due("minutes without anybody", x.tick(1500), 1500);
        none("paid", x.paid(0, 0, 1500));
        Due.due("book of nobody", x.book(), 0);
    }

    /** Numbers rise from 0 up to the last one; the one above is refused. */
    private static void fill(String name, CountyWatch x, int from, int most, int what, ToLongFunction<CountyWatch> add) {
        for (int i = from; i < most; i++) {
            Due.due("count of " + name + "s", x.count(what), i);
            Due.due(name + " " + i, add.applyAsLong(x), i);
        }
        Due.due("the full number of " + name + "s", x.count(what), most);
        Due.due("a " + name + " above", add.applyAsLong(x), NONE);
        Due.due("a " + name + " above, again", add.applyAsLong(x), NONE);
        Due.due("still the full number of " + name + "s", x.count(what), most);
    }

    private static void paths() {
        CountyWatch x = new CountyWatch();
        for (int i = 0; i < 15; i++) {
            x.path(i, i + 1, 60);
        }
        Due.due("the longest walk", x.walk(0, 15), 900);
        Due.due("back", x.walk(15, 0), 900);
        fill("path", x, 15, 40, 1, y -> y.path(3, 4, 60));
        Due.due("a shorter one above", x.path(0, 15, 1), NONE);
        Due.due("the walk stays", x.walk(0, 15), 900);
    }

    private static void constables() {
        CountyWatch x = new CountyWatch();
        fill("constable", x, 0, 12, 2, y -> y.constable(1, 0, 0));
        Due.throwsAbout(x, 12, 0);
        Due.due("the last one is there", x.was(11, 0), 0);
        Due.due("the one above is not", x.was(12, 0), NONE);
        Due.beat(x, "w 5");
        for (int i = 0; i < 12; i++) {
            Due.due("begin " + i, x.begin(i, 0), true);
        }
        Due.due("begin of the one above", x.begin(12, 0), false);
        x.tick(4);
        Due.due("the last one waits", x.about(11, 0), 1);
        x.tick(1);
        Due.due("the last one is free", x.about(11, 0), 0);
    }

    private static void tape() {
        CountyWatch x = new CountyWatch();
        StringBuilder text = new StringBuilder("l");
        for (int i = 0; i < 79; i++) {
            text.append(";l");
        }
        Due.due("159 bytes", Due.put(x, text.toString()), 159);
        Due.due("two more", x.feed(0x20, 0, 0, 0, 0x20), NONE);
        Due.due("the tape stays", x.fault(0), -1);
        Due.due("one more", x.feed(0, 0, ';', 0, 0), 160);
        Due.due("the fault is the length", x.fault(0), 160);
        Due.due("one above", x.feed('l', 0, 0, 0, 0), NONE);
        Due.due("none more", x.feed(0, 0, 0, 0, 0), 160);
        Due.due("a beat with a fault", x.beat(), NONE);
        Due.due("cut", x.end(159), true);
        Due.due("160 is behind its end", x.end(160), false);
        Due.due("beat", x.beat(), 0);
        Due.due("its steps", x.beaten(0, 0), 80);
        Due.due("the tape is empty", x.count(18), 0);
        Due.due("what was there is gone", x.end(1), false);
        Due.due("fed anew", Due.put(x, "l"), 1);
        Due.due("no fault", x.fault(0), -1);
        Due.due("twenty at once", new CountyWatch().feed(-1, -1, -1, -1, -1), 20);
    }

    private static void beats() {
        CountyWatch x = new CountyWatch();
        x.constable(1, 0, 0);
        for (int i = 0; i < 12; i++) {
            Due.due("beat " + i, Due.beat(x, "(l)" + (i + 1)), i);
        }
        Due.due("a beat above", Due.beat(x, "l"), NONE);
        Due.due("the tape stays", x.count(18), 1);
        Due.due("count(3)", x.count(3), 12);
        Due.due("beaten of the last one", x.beaten(11, 0), 12);
        Due.due("beaten of the one above", x.beaten(12, 0), NONE);
        Due.due("begin of the one above", x.begin(0, 12), false);
        Due.due("the constable stays free", x.about(0, 0), 0);
        Due.due("begin of the last one", x.begin(0, 11), true);
    }

    private static void longestBeats() {
        CountyWatch x = new CountyWatch();
        x.constable(1, 0, 0);
        for (int i = 0; i < 12; i++) {
            Due.due("150 steps", Due.beat(x, "(p 0 " + i + ")20;((w 1;p 0 1)13)5"), i);
            Due.due("steps", x.beaten(i, 0), 150);
            Due.due("points", x.beaten(i, 1), 85);
        }
        Due.due("151 steps", Due.beat(x, "(p 0 1)20;((w 1;p 0 1)13)5;l"), NONE);
        x.begin(0, 11);
        Due.due("the first point waits", x.about(0, 3), 11);
        x.tick(11);
        Due.due("twenty points in a minute, then it waits", x.about(0, 4), 20);
        Due.due("twenty points in a minute, then it waits", x.about(0, 5), 20);
        x.tick(64);
        Due.due("the last but one step", x.about(0, 4), 148);
        Due.due("late ones are missed", x.about(0, 6), 64);
        x.tick(1);
        Due.due("free behind the last step", x.about(0, 0), 0);
        Due.due("late ones are missed", x.about(0, 6), 65);
    }

    /** A text that is too long leaves nothing behind, and a BEAT of 150 STEPS ends ahead of the next BEAT. */
    private static void longBeatsAreNotMixed() {
        CountyWatch x = menAt(1, 0);
        Due.due("3,000 steps", Due.beat(x, "((w 1)15)10;((l)15)10"), NONE);
        Due.due("cut to 150 steps", x.end(11), true);
        Due.due("beat", x.beat(), 0);
        Due.due("its steps", x.beaten(0, 0), 150);
        Due.due("the next beat", Due.beat(x, "l"), 1);
        Due.due("its steps", x.beaten(1, 0), 1);
        x.watch(0, 0, 1440);
        x.find(1, 0, 0, 20000, 1);
        Due.due("the long one has no look", x.sees(0, 0), 0);
        Due.due("the next one has", x.sees(1, 0), 1);
        x.begin(0, 0);
        x.tick(149);
        Due.due("the last step", x.about(0, 4), 149);
        x.tick(1);
        Due.due("free", x.about(0, 0), 0);
        x.tick(5);
        Due.due("it saw nothing", x.count(8), 0);
    }

    private static CountyWatch menAt(int many, int place) {
        CountyWatch x = new CountyWatch();
        for (int i = 0; i < many; i++) {
            x.constable(1, 0, place);
        }
        return x;
    }

    private static void rows() {
        CountyWatch x = menAt(4, 0);
        Due.beat(x, "((p 0 9)15)10");
        Due.beat(x, "((p 0 9)20)5");
        Due.beat(x, "((p 0 9)20)5;p 0 9");
        Due.beat(x, "p 0 9");
        Due.beat(x, "w 9");
        Due.due("150 rows", x.begin(0, 0), true);
        Due.due("300 rows", x.begin(1, 0), true);
        Due.due("401 rows", x.begin(2, 2), false);
        Due.due("450 rows", x.begin(2, 0), false);
        Due.due("refused: still free", x.about(2, 0), 0);
        Due.due("refused: no row", x.count(4), 300);
        Due.due("refused: no row", x.point(300, 0, 0), NONE);
        Due.due("400 rows", x.begin(2, 1), true);
        Due.due("the last row", x.point(399, 0, 0), 2);
        Due.due("none behind it", x.point(400, 0, 0), NONE);
        Due.due("one above", x.begin(3, 3), false);
        Due.due("refused: still free", x.about(3, 0), 0);
        Due.due("a beat without points", x.begin(3, 4), true);
        Due.due("count(4)", x.count(4), 400);
        x.ill(0, true);
        x.draw(2, 0, 5);
        Due.due("the first 150: one was met", x.causes(4, 0), 149);
        Due.due("the last 100: one was met", x.causes(3, 0), 99);
        Due.due("the last row", x.point(399, 0, 4), 3);
    }

    private static void rowsAreAllPaid() {
        CountyWatch x = menAt(12, 0);
        Due.beat(x, "((p 0 0)20)5");
        Due.pay(x, "m", 0);
        for (int m = 8; m < 12; m++) {
            Due.due("begin", x.begin(m, 0), true);
        }
        Due.due("400 rows", x.count(4), 400);
        x.tick(1440);
        Due.due("the first one has none", x.paid(0, 0, 1440), 0);
        Due.due("the last one has 100", x.paid(11, 0, 1440), 100);
        Due.due("four are paid", x.book(), 4);
        Due.due("coins", x.count(17), 400);
        Due.pay(x, "x", 0);
        Due.due("none is missed", x.paid(0, 0, 1440), 0);
        Due.due("no cause", x.causes(1, 1440), 0);
    }

    private static void causes() {
        CountyWatch x = menAt(1, 0);
        Due.beat(x, "p 9 5;p 9 6");
        x.begin(0, 0);
        for (int i = 0; i < 200; i++) {
            Due.due("cause told anew " + i, x.cause(i % 2, 1 + i % 9), true);
        }
        Due.due("the 200th is told", x.point(1, 0, 4), 1 + 199 % 9);
        Due.due("one above", x.cause(0, 9), false);
        Due.due("refused: as told last", x.point(0, 0, 4), 1 + 198 % 9);
        Due.due("refused: as told last", x.causes(9, 0), 0);
        x.tick(1);
        Due.due("one above, later", x.cause(1, 9), false);
        Due.due("refused: as told last", x.point(1, 1, 4), 1 + 199 % 9);
    }

    private static void finds() {
        CountyWatch x = menAt(1, 0);
        fill("find", x, 0, 80, 5, y -> y.find(1, 0, 1, 1, 1));
        Due.act(x, "d=0?n", 0);
        Due.beat(x, "l");
        x.begin(0, 0);
        x.tick(1);
        Due.due("all 80 are seen, none above", x.count(8), 80);
        Due.due("the last one", x.sighting(79, 1), 79);
    }

    private static void acts() {
        CountyWatch x = new CountyWatch();
        for (int i = 0; i < 20; i++) {
            Due.due("act " + i, Due.act(x, "k=1?n", 7), i);
        }
        Due.due("an act above", Due.act(x, "k=1?t", 7), NONE);
        Due.due("refused: the tape stays", x.count(18), 5);
        Due.due("refused: the last one is in force", x.force(7, 0), 19);
        Due.due("count(7)", x.count(7), 20);
        Due.due("pay is told none the less", Due.pay(x, "5", 0), 0);
    }

    private static CountyWatch manAmong80Finds(String act, String beat) {
        CountyWatch x = menAt(1, 0);
        for (int i = 0; i < 80; i++) {
            x.find(i % 10, 0, 0, 20000, 1);
        }
        Due.act(x, act, 0);
        Due.beat(x, beat);
        x.begin(0, 0);
        return x;
    }

    private static void twelveInOnePlace() {
        CountyWatch x = menAt(12, 0);
        x.find(1, 0, 0, 20000, 1);
        Due.act(x, "n=12&e=0?n;n=12&e=1?r;n=12&e=11?t", 0);
        Due.beat(x, "l");
        for (int m = 0; m < 12; m++) {
            x.begin(m, 0);
        }
        x.tick(1);
        Due.due("each of them sees it", x.count(8), 12);
        for (int m = 0; m < 12; m++) {
            Due.due("rising", x.sighting(m, 0), m);
            Due.due("what is done", x.sighting(m, 3), m == 0 ? 1 : m == 1 ? 2 : m == 11 ? 3 : 0);
        }
        x.begin(11, 0);
        x.tick(1);
        Due.due("it is taken", x.count(8), 12);
    }

    private static void sightings() {
        CountyWatch x = manAmong80Finds("e=3?r;e=0?n", "(l)5");
        x.tick(3);
        Due.due("240 sightings", x.count(8), 240);
        x.tick(1);
        Due.due("300 sightings", x.count(8), 300);
        Due.due("the last one", x.sighting(299, 1), 59);
        Due.due("the last one", x.sighting(299, 3), 2);
        Due.due("none behind it", x.sighting(300, 0), NONE);
        Due.act(x, "d=0?t", 0);
        x.tick(1);
        Due.due("what is above is seen by nobody", x.count(8), 300);
        Due.due("so it is not taken", x.count(6), 0);
        Due.due("so there is no case", x.count(9), 0);
        Due.due("the beat goes on as ever", x.about(0, 0), 0);
        Due.due("noted and reported ones are heard of", x.heard(5), 80 + 60);
        Due.due("should of the last one", x.should(299, 5), 3);
        Due.due("should of the one above", x.should(300, 5), NONE);
    }

    private static void sightingsAreAllPaid() {
        CountyWatch x = manAmong80Finds("e=3?t", "(l)5");
        Due.pay(x, "t*100+a", 0);
        x.tick(1440);
        Due.due("300 sightings", x.count(8), 300);
        Due.due("60 are taken", x.count(6), 60);
        Due.due("60 rightly", x.paid(0, 0, 1440), 6000);
        Due.act(x, "k=0?t", 0);
        Due.due("6 rightly, 54 not", x.paid(0, 0, 1440), 654);
    }

    private static void casesByHand() {
        CountyWatch x = new CountyWatch();
        fill("case", x, 0, 30, 9, y -> y.open(9));
        Due.due("the last case", x.cased(29, 0, 2), 9);
        Due.due("the one above", x.cased(30, 0, 2), NONE);
        Due.due("a statement of the last", x.state(29, 7, 15, true), 0);
        Due.due("a statement of the one above", x.state(30, 7, 15, true), NONE);
        Due.due("a story of the last", x.story(29, 1, 2), 0);
        Due.due("a story of the one above", x.story(30, 1, 2), NONE);
    }

    private static void casesByTaking() {
        CountyWatch x = manAmong80Finds("d=0?t", "l");
        x.tick(1);
        Due.due("all 80 are taken", x.count(6), 80);
        Due.due("30 cases", x.count(9), 30);
        Due.due("the case of the 30th", x.sighting(29, 4), 29);
        Due.due("its kind", x.cased(29, 1, 2), 9);
        Due.due("the 31st has none", x.sighting(30, 4), NONE);
        Due.due("but it is taken", x.sighting(30, 3), 3);
        Due.due("no case by hand above", x.open(1), NONE);
    }

    private static void statements() {
        CountyWatch x = new CountyWatch();
        x.open(0);
        for (int i = 0; i < 200; i++) {
            Due.due("statement " + i, x.state(0, i % 8, 15, true), i);
        }
        Due.due("a statement above", x.state(0, 0, 15, false), NONE);
        Due.due("count(10)", x.count(10), 200);
        Due.due("refused: its latest one counts", x.fact(0, 0, 0), 1);
        Due.due("a witness can be withdrawn none the less", x.withdraw(15), 0);
        Due.due("and its word does not count", x.fact(0, 0, 0), 0);
    }

    private static void withdrawalFromAllCases() {
        CountyWatch x = new CountyWatch();
        x.need(4, 128);
        for (int of = 0; of < 30; of++) {
            x.open(4);
            x.state(of, 7, 15, true);
            Due.due("ready", x.cased(of, 0, 0), 1);
        }
        Due.due("another one, who said nothing", x.withdraw(0), 0);
        Due.due("all 30 are otherwise", x.withdraw(15), 30);
        Due.due("open", x.cased(29, 0, 0), 0);
        Due.due("lacks", x.cased(29, 0, 1), 128);
    }

    private static void stories() {
        CountyWatch x = new CountyWatch();
        for (int of = 0; of < 30; of++) {
            x.open(0);
            for (int i = 0; i < 6; i++) {
                Due.due("story of case " + of, x.story(of, 1 << i, 0), i);
            }
            Due.due("a story above", x.story(of, 0, 1), NONE);
            Due.due("six stand", x.cased(of, 0, 4), 6);
        }
        x.state(28, 0, 0, false);
        Due.due("of this case one falls", x.cased(28, 0, 4), 5);
        Due.due("of the next one none", x.cased(29, 0, 4), 6);
    }

    private static void goods() {
        CountyWatch x = new CountyWatch();
        fill("lost good", x, 0, 8, 11, y -> y.good(true, 11111));
        Due.due("none is found", x.joining(), 0);
        Due.due("none is found", x.joined(7), NONE);
        Due.due("none is found", x.rivals(7), 0);
        Due.due("joined to none in all", x.sure(7), 1);
        fill("found good", x, 0, 8, 12, y -> y.good(false, 11111));
        Due.due("eight pairs, five marks each", x.joining(), 40);
        Due.due("the last one to the last one", x.joined(7), 7);
        Due.due("all are rivals", x.rivals(7), 255);
        Due.due("not sure", x.sure(7), 0);
    }

    private static void watches() {
        CountyWatch x = new CountyWatch();
        fill("watch", x, 0, 8, 13, y -> y.watch(0, 1, 1));
        Due.beat(x, "l");
        Due.beat(x, "w 1;l");
        Due.due("sees the last one", x.sees(0, 7), 1);
        Due.due("the other does not", x.sees(1, 7), 0);
        Due.due("the one above", x.sees(0, 8), NONE);
        Due.due("a watch above that none would see", x.watch(9, 0, 0), NONE);
        Due.due("refused: as safe as without it", x.safe(3), 12);
    }

    private static void sharing() {
        CountyWatch x = new CountyWatch();
        for (int i = 0; i < 12; i++) {
            Due.beat(x, i == 0 ? "l" : "w " + i + ";l");
        }
        for (int minute = 1; minute <= 12; minute++) {
            x.watch(0, minute, minute);
        }
        Due.due("one beat alone", x.share(1 << 11, 11), 12);
        Due.due("the five lowest", x.safe(31), 0);
        Due.due("six beats", x.safe(63), NONE);
        Due.due("six beats", x.share(63, 0), NONE);
        Due.due("all twelve", x.safe(4095), NONE);
        Due.due("a beat that is not there", x.safe(1 << 12), NONE);
        Due.due("five and one that is not there", x.safe(1 << 12 | 15), NONE);
        Due.due("the five highest", x.safe(31 << 7), 0);
        Due.due("of those the first sees a watch", x.share(31 << 7, 7), 12);
        Due.due("of those the last sees none", x.share(31 << 7, 11), 0);
        Due.due("one that is none of them", x.share(31 << 7, 6), NONE);
    }

    private static void fairs() {
        CountyWatch x = menAt(12, 0);
        fill("fair", x, 0, 4, 14, y -> y.fair(0, 0, 3));
        Due.due("all twelve are lent", x.lending(0), 0);
        Due.due("the last one to the last fair", x.lent(11), 3);
        Due.due("a fair above that none can reach", x.fair(9, 0, 1), NONE);
        Due.due("refused: the lending stays", x.lending(0), 0);
        x.fairs();
        Due.due("lent to none", x.lent(11), NONE);
        fill("fair", x, 0, 4, 14, y -> y.fair(0, 0, 1));
        Due.due("four are lent", x.lent(3), 3);
        Due.due("the others are not", x.lent(4), NONE);
    }

    private static void pays() {
        CountyWatch x = menAt(1, 0);
        x.tick(1440);
        for (int i = 0; i < 20; i++) {
            Due.due("pay " + i, Due.pay(x, String.valueOf(i), 0), i);
        }
        Due.due("a pay above", Due.pay(x, "77", 0), NONE);
        Due.due("refused: the tape stays", x.count(18), 2);
        Due.due("refused: the last one is in force", x.paid(0, 0, 1440), 19);
        Due.due("count(15)", x.count(15), 20);
        Due.due("an act is told none the less", Due.act(x, "k=1?n", 0), 0);
    }

    private static void ranks() {
        CountyWatch x = menAt(2, 0);
        for (int i = 0; i < 40; i++) {
            Due.due("rank " + i, x.rank(i % 2, 1 + i % 4, 3), true);
        }
        Due.due("a change above", x.rank(0, 4, 3), false);
        Due.due("refused: as told last", x.ranked(0, 3, 0), 3);
        Due.due("as told last", x.ranked(1, 3, 0), 4);
        Due.due("ahead of that day", x.ranked(1, 2, 0), 1);
    }

    private static void lines() {
        CountyWatch x = menAt(12, 0);
        Due.until(x, 1440 * 10);
        for (int i = 1; i <= 5; i++) {
            Due.pay(x, String.valueOf(i), 0);
            Due.due("120 lines", x.book(), 120);
        }
        Due.due("the last line", x.line(599, 2), 1);
        Due.due("none behind it", x.line(600, 0), HIDDEN);
        Due.due("nothing to book", x.book(), 0);
        Due.pay(x, "9", 9);
        Due.due("twelve above", x.book(), NONE);
        Due.due("refused: lines", x.count(16), 600);
        Due.due("refused: coins", x.count(17), 600);
        Due.due("pay is as known none the less", x.paid(11, 9, 1440 * 10), 9);
        Due.due("refused again", x.book(), NONE);
        Due.pay(x, "5", 9);
        Due.due("as booked again", x.book(), 0);
        x.tick(1440);
        Due.due("a day more", x.book(), NONE);
        Due.pay(x, "0", 10);
        Due.due("a day more without pay", x.book(), 0);
    }

    private static void lastMinute() {
        CountyWatch x = menAt(1, 0);
        Due.until(x, 18500);
        Due.due("tick above 20,000", x.tick(1501), NONE);
        Due.due("tick to 20,000", x.tick(1500), 20000);
        Due.due("tick(1)", x.tick(1), NONE);
        Due.due("NOW stays", x.count(0), 20000);
        Due.due("tick(0)", x.tick(0), 20000);
        Due.beat(x, "p 0 1440");
        Due.due("begin in the last minute", x.begin(0, 0), true);
        Due.due("it is due behind the last minute", x.point(0, 20000, 2), 21440);
        Due.due("it waits for ever", x.about(0, 3), 21440);
        Due.due("ill in the last minute", x.ill(0, true), true);
        Due.due("well in the last minute", x.ill(0, false), true);
        Due.due("drawn in the last minute", x.draw(0, 0, 19999), false);
        Due.due("drawn in the last minute", x.draw(0, 0, 30000), true);
        Due.due("day 12 is over", x.paid(0, 12, 20000), 0);
        Due.due("day 13 is not", x.paid(0, 13, 20000), NONE);
        Due.due("where it was", x.was(0, 20000), 0);
    }
}
