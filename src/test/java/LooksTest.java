/** Promises 19 to 24: finds, acts, and what is seen. */
public final class LooksTest {
    public static void main(String[] args) {
        finds();
        acts();
        seeing();
        letters();
        arithmetic();
        howManyAreThere();
        knownAtTheHouse();
        hours();
        firstFind();
        shoulds();
        noCaseAbove30();
        noneAbove300();
        Due.finish("LooksTest");
    }

    private static void finds() {
        CountyWatch x = new CountyWatch();
        Due.due("find", x.find(0, 0, 0, 0, 1), 0);
        Due.due("find", x.find(9, 15, 20000, 20000, 9), 1);
        Due.due("kind", x.find(10, 0, 0, 0, 1), -1);
        Due.due("kind", x.find(-1, 0, 0, 0, 1), -1);
        Due.due("place", x.find(0, 16, 0, 0, 1), -1);
        Due.due("from", x.find(0, 0, -1, 0, 1), -1);
        Due.due("to", x.find(0, 0, 0, 20001, 1), -1);
        Due.due("from behind to", x.find(0, 0, 2, 1, 1), -1);
        Due.due("weight", x.find(0, 0, 0, 0, 0), -1);
        Due.due("weight", x.find(0, 0, 0, 0, 10), -1);
        for (int i = 2; i < 80; i++) {
            Due.due("find", x.find(0, 0, 0, 0, 1), i);
        }
        Due.due("find 80", x.find(0, 0, 0, 0, 1), -1);
        Due.due("count(5)", x.count(5), 80);
    }

    private static void acts() {
        CountyWatch x = new CountyWatch();
        Due.due("no act", x.force(0, 0), -1);
        Due.due("a fault", Due.act(x, "k=1", 0), -1);
        Due.due("day 31", Due.act(x, "k=1?n", 31), -1);
        Due.due("the tape stays", x.count(18), 5);
        Due.due("day -1", x.act(-1), -1);
        Due.due("act", x.act(5), 0);
        Due.due("the tape is empty", x.count(18), 0);
        Due.due("empty", x.act(0), -1);
        x.tick(10);
        Due.act(x, "k=2?n", 3);
        Due.act(x, "k=3?n", 5);
        x.tick(10);
        Due.act(x, "k=4?n", 5);
        Due.act(x, "k=5?n", 30);
        Due.due("day 2", x.force(2, 20), -1);
        Due.act(x, "k=6?n", 0);
        Due.due("day 0", x.force(0, 20), 5);
        Due.due("day 3", x.force(3, 20), 1);
        Due.due("day 3, ahead", x.force(3, 9), -1);
        Due.due("day 5, told last", x.force(5, 20), 3);
        Due.due("day 5 at 19", x.force(5, 19), 2);
        Due.due("day 5 at 9", x.force(5, 9), 0);
        Due.due("day 29", x.force(29, 20), 3);
        Due.due("day 30", x.force(30, 20), 4);
        Due.due("day 31", x.force(31, 20), -1);
        Due.due("day -1", x.force(-1, 20), -1);
        Due.due("behind now", x.force(5, 21), -1);
        Due.due("ahead of all", x.force(5, -1), -1);
    }

    private static int[] all(CountyWatch x, int i) {
        int[] row = new int[6];
        for (int what = 0; what < 6; what++) {
            row[what] = x.sighting(i, what);
        }
        return row;
    }

    private static void seeing() {
        CountyWatch x = new CountyWatch();
        x.path(0, 1, 10);
        x.constable(1, 0, 1);
        Due.act(x, "w=1?x;w=2?n;w=3?r;w=4?t", 0);
        for (int weight = 5; weight >= 1; weight--) {
            x.find(weight, 1, 0, 100, weight);
        }
        x.find(7, 1, 0, 1, 2);
        x.find(7, 1, 2, 2, 2);
        x.find(7, 1, 3, 3, 2);
        x.find(7, 0, 0, 20, 2);
        Due.beat(x, "w 1;l");
        x.begin(0, 0);
        x.tick(1);
        Due.due("not yet", x.count(8), 0);
        x.tick(1);
        Due.due("all that were there", x.count(8), 6);
        Due.row("none holds", all(x, 0), 0, 0, 2, 0, -1, -1);
        Due.row("taken", all(x, 1), 0, 1, 2, 3, 0, 12);
        Due.row("reported", all(x, 2), 0, 2, 2, 2, -1, 12);
        Due.row("noted, and free", all(x, 3), 0, 3, 2, 1, -1, 2);
        Due.row("nothing", all(x, 4), 0, 4, 2, 0, -1, -1);
        Due.row("noted", all(x, 5), 0, 6, 2, 1, -1, 2);
        Due.row("no such sighting", all(x, 6), -1, -1, -1, -1, -1, -1);
        Due.row("no such sighting", all(x, -1), -1, -1, -1, -1, -1, -1);
        Due.due("no such what", x.sighting(0, 6), -1);
        Due.due("no such what", x.sighting(0, -1), -1);
        Due.due("count(6)", x.count(6), 1);
        Due.due("count(9)", x.count(9), 1);
        Due.due("the case's kind", x.cased(0, 2, 2), 4);
        Due.due("the case's minute", x.cased(0, 2, 3), 2);
        x.begin(0, 0);
        x.tick(2);
        Due.due("what is taken is not seen", x.count(8), 10);
        Due.due("by number", x.sighting(6, 1), 0);
        Due.due("by number", x.sighting(7, 1), 2);
    }

    /** Whether a condition holds at one look, with a find of kind 3, weight 4 at place 2 there from minute 60. */
    private static void holds(String condition, boolean want) {
        CountyWatch x = new CountyWatch();
        x.path(0, 2, 5);
        x.constable(2, 7, 2);
        x.constable(1, 0, 2);
        x.rank(0, 3, 1);
        x.rank(0, 4, 2);
        x.find(3, 2, 60, 5000, 4);
        Due.until(x, 1440 + 120 - 3);
        Due.act(x, "k=3?n", 0);
        Due.beat(x, "l;l");
        x.begin(0, 0);
        x.tick(1);
        Due.due(condition, Due.act(x, condition + "?r", 0), 1);
        x.tick(1);
        Due.due("sightings", x.count(8), 2);
        Due.due(condition, x.sighting(1, 3), want ? 2 : 0);
    }

    private static void letters() {
        holds("k=3&w=4&p=2", true);
        holds("h=1", true);
        holds("d=1", true);
        holds("c=3", true);
        holds("n=2", true);
        holds("e=1", true);
        holds("t=1499", true);
        holds("k=4|w=4", true);
        holds("k=4|w=5", false);
        holds("k=3|w=4&p=9", true);
        holds("(k=3|w=4)&p=9", false);
        holds("!k=3|w=4", true);
        holds("!(k=3|w=4)", false);
        holds("!!k=3", true);
        holds("k<4&k>2", true);
        holds("k<3", false);
        holds("k>3", false);
    }

    private static void arithmetic() {
        holds("1-2-3+10=6", true);
        holds("2+3*4=14", true);
        holds("[2+3]*4=20", true);
        holds("9999*9999=1000*1000", true);
        holds("0-9999*9999*9999=0-1000*1000", true);
        holds("9999*9999-1=1000*1000-1", true);
        holds("9999*9999+1-1=1000*1000-1", true);
        holds("0-9999*9999-1+1=1-1000*1000", true);
        holds("[0-9]*9999*9999=0-1000*1000", true);
        holds("k-w=0-1", true);
        holds("0007=7", true);
    }

    private static void howManyAreThere() {
        CountyWatch x = new CountyWatch();
        x.path(0, 1, 1);
        x.constable(1, 0, 0);
        x.constable(1, 0, 0);
        x.constable(1, 0, 0);
        x.find(1, 0, 0, 100, 1);
        Due.act(x, "n=1?n;n=2?r;n=3?t", 0);
        Due.beat(x, "w 1;g 1");
        Due.beat(x, "l");
        x.begin(0, 0);
        x.ill(2, true);
        x.begin(1, 1);
        x.tick(1);
        Due.due("the ill one and itself; the lower one has gone", x.sighting(0, 3), 2);
        x.ill(2, false);
        x.tick(2);
        x.begin(2, 0);
        x.begin(1, 1);
        x.tick(1);
        Due.due("the higher one has not gone yet", x.sighting(1, 3), 3);
    }

    private static void knownAtTheHouse() {
        CountyWatch x = new CountyWatch();
        x.constable(1, 0, 1);
        x.constable(1, 0, 0);
        x.find(1, 1, 0, 100, 1);
        Due.act(x, "d=0?r", 0);
        Due.beat(x, "l");
        x.begin(0, 0);
        x.tick(1);
        Due.due("no walk", x.sighting(0, 5), -1);
        x.path(0, 1, 10);
        Due.due("as it was then", x.sighting(0, 5), -1);
        x.begin(0, 0);
        x.tick(1);
        x.path(0, 1, 5);
        Due.due("as it was then", x.sighting(1, 5), 12);
        Due.act(x, "d=0?n", 0);
        Due.beat(x, "l;w 3;w 2");
        x.begin(0, 1);
        x.tick(1);
        Due.due("noted", x.sighting(2, 5), -1);
        x.tick(2);
        x.draw(0, 0, 6);
        x.tick(5);
        Due.due("noted, drawn", x.sighting(2, 5), -1);
        x.ill(0, true);
        x.tick(1);
        Due.due("noted, ill", x.sighting(2, 5), -1);
        x.ill(0, false);
        Due.due("free next", x.sighting(2, 5), 11);
        x.begin(0, 0);
        x.tick(4);
        Due.due("it stays", x.sighting(2, 5), 11);
        Due.due("heard at 10", x.heard(10), 0);
        Due.due("heard at 11", x.heard(11), 1);
        Due.due("heard at 12", x.heard(12), 3);
        Due.due("heard at 15", x.heard(15), 3);
        Due.due("heard behind now", x.heard(16), -1);
        Due.due("heard ahead of all", x.heard(-1), -1);
    }

    private static void hours() {
        int[][] looks = {{59, 0}, {60, 1}, {1439, 23}, {1440, 0}, {2880 + 719, 11}};
        for (int[] look : looks) {
            CountyWatch x = new CountyWatch();
            x.constable(1, 0, 0);
            x.find(1, 0, 0, 20000, 1);
            Due.act(x, "h=" + look[1] + "?r", 0);
            Due.until(x, look[0] - 1);
            Due.beat(x, "l");
            x.begin(0, 0);
            x.tick(1);
            Due.due("the hour at " + look[0], x.sighting(0, 3), 2);
        }
    }

    private static void firstFind() {
        CountyWatch x = new CountyWatch();
        x.constable(1, 0, 0);
        x.find(6, 0, 0, 1, 1);
        x.find(7, 0, 1, 1, 2);
        Due.act(x, "w=1?t;w=2?n", 0);
        Due.beat(x, "l");
        x.begin(0, 0);
        x.tick(1);
        Due.due("the kind of find 0", x.cased(0, 1, 2), 6);
        Due.due("both are known", x.heard(1), 2);
        Due.due("none was known ahead", x.heard(0), 0);
    }

    private static void shoulds() {
        CountyWatch x = new CountyWatch();
        x.constable(1, 0, 0);
        x.find(1, 0, 0, 3000, 1);
        Due.beat(x, "l");
        x.tick(9);
        x.begin(0, 0);
        x.tick(1);
        Due.due("no act", x.sighting(0, 3), 0);
        x.tick(5);
        Due.act(x, "c=1&e=0&n=1?t;c=2?r", 0);
        x.rank(0, 2, 0);
        x.constable(1, 0, 0);
        x.tick(5);
        Due.act(x, "c=1?n", 0);
        Due.due("at its minute", x.should(0, 10), 0);
        Due.due("ahead of it", x.should(0, 9), -1);
        Due.due("at 14", x.should(0, 14), 0);
        Due.due("letters as they were", x.should(0, 15), 3);
        Due.due("at 20", x.should(0, 20), 1);
        Due.due("behind now", x.should(0, 21), -1);
        Due.due("no such sighting", x.should(1, 20), -1);
        Due.due("no such sighting", x.should(-1, 20), -1);
        Due.act(x, "c=1?r", 1);
        Due.due("another day's act", x.should(0, 20), 1);
        Due.due("what was done stays", x.sighting(0, 3), 0);
        Due.due("nothing is taken by it", x.count(6), 0);
    }

    private static void noCaseAbove30() {
        CountyWatch x = new CountyWatch();
        x.constable(1, 0, 0);
        for (int i = 0; i < 29; i++) {
            x.open(0);
        }
        x.find(1, 0, 0, 10, 1);
        x.find(2, 0, 0, 10, 1);
        Due.act(x, "d=0?t", 0);
        Due.beat(x, "l");
        x.begin(0, 0);
        x.tick(1);
        Due.row("case 29", all(x, 0), 0, 0, 1, 3, 29, 1);
        Due.row("no case above", all(x, 1), 0, 1, 1, 3, -1, 1);
        Due.due("both are taken", x.count(6), 2);
    }

    private static void noneAbove300() {
        CountyWatch x = new CountyWatch();
        x.constable(1, 0, 0);
        for (int i = 0; i < 80; i++) {
            x.find(1, 0, 0, 100, 1);
        }
        Due.act(x, "e<3?n;d=0?t", 0);
        Due.beat(x, "(l)10");
        x.begin(0, 0);
        x.tick(3);
        Due.due("240 sightings", x.count(8), 240);
        x.tick(3);
        Due.due("300 sightings", x.count(8), 300);
        Due.due("what is above is not taken", x.count(6), 60);
        Due.due("cases", x.count(9), 30);
        Due.due("the last one", x.sighting(299, 1), 59);
    }
}
