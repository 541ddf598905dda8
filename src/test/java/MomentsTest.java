/** The very minutes at which things are so for the first and for the last time, and the smallest numbers that do. */
public final class MomentsTest {
    private static final int NONE = CountyWatch.NONE;

    public static void main(String[] args) {
        pointsInTime();
        stepsWithoutTime();
        drawnTill();
        drawnToWhereItIs();
        findsFromTo();
        daysAndHours();
        daysOfPoints();
        daysOfSightings();
        knownAtTheHouse();
        toldInTheVeryMinute();
        whenRowsAreKnown();
        whenWordsAreKnown();
        wants();
        partings();
        likeness();
        watchesFromTo();
        sharesOfTwelve();
        fairsInTime();
        complaints();
        habits();
        classesFromADay();
        Due.finish("MomentsTest");
    }

    /** Ten minutes from 0 to 1; a constable of CLASS 1 at 0. */
    private static CountyWatch road() {
        CountyWatch x = new CountyWatch();
        x.path(0, 1, 10);
        x.constable(1, 0, 0);
        return x;
    }

    private static CountyWatch on(String beat) {
        CountyWatch x = road();
        x.tick(100);
        Due.beat(x, beat);
        Due.due("begin " + beat, x.begin(0, 0), true);
        return x;
    }

    private static void pointsInTime() {
        CountyWatch x = on("p 1 10;w 1");
        x.tick(9);
        Due.due("open until it comes", x.point(0, 109, 3), 0);
        x.tick(1);
        Due.due("there by the very minute", x.point(0, 110, 3), 1);
        Due.due("it does not wait", x.about(0, 4), 1);
        x = on("p 1 11;w 1");
        x.tick(10);
        Due.due("a minute early: met as it comes", x.point(0, 110, 3), 1);
        Due.due("it waits", x.about(0, 3), 111);
        x.tick(1);
        Due.due("till then", x.about(0, 4), 1);
        x = on("p 1 9;w 1");
        x.tick(9);
        Due.due("due, but on its way: open", x.point(0, 109, 3), 0);
        x.tick(1);
        Due.due("a minute late", x.point(0, 110, 3), 2);
        Due.due("a minute late", x.point(0, 110, 4), 1);
        x = on("p 0 0;w 1");
        Due.due("at once", x.point(0, 100, 3), 1);
        x = on("w 1;p 0 0");
        x.tick(1);
        Due.due("a minute late, though there", x.point(0, 101, 4), 1);
        x = on("p 0 1440");
        x.tick(1439);
        Due.due("waits for the last minute of all", x.about(0, 0), 1);
        x.tick(1);
        Due.due("and is free", x.about(0, 0), 0);
    }

    private static void stepsWithoutTime() {
        CountyWatch x = on("(g 0;p 0 0;g 7;p 7 3)20;l");
        Due.due("eighty steps at once", x.about(0, 4), 80);
        Due.due("met", x.about(0, 5), 20);
        Due.due("missed", x.about(0, 6), 20);
        Due.due("cause 2", x.causes(2, 100), 20);
        Due.due("known at the minute of its beginning", x.causes(2, 99), 0);
        x.tick(1);
        Due.due("a look is a minute; home and free at once", x.about(0, 0), 0);
        x = on("g 0;p 0 0;g 7");
        Due.due("nothing takes time: free at once", x.about(0, 0), 0);
        Due.due("it can begin again", x.begin(0, 0), true);
        Due.due("two rows", x.count(4), 2);
        x = on("g 1");
        x.tick(20);
        Due.due("ten there, ten back", x.about(0, 0), 0);
        Due.due("a minute ahead it was on its way", x.was(0, 119), NONE);
        Due.due("it turned in no time", x.was(0, 110), NONE);
    }

    private static void drawnTill() {
        int[][] tills = {{0, 20}, {9, 20}, {10, 20}, {11, 21}, {12, 22}};
        for (int[] till : tills) {
            CountyWatch x = road();
            x.draw(0, 1, till[0]);
            x.tick(till[1] - 1);
            Due.due("drawn till " + till[0] + ": not yet free", x.about(0, 0), 2);
            Due.due("drawn till " + till[0] + ": there at 10", x.was(0, 10), till[0] > 10 ? 1 : NONE);
            x.tick(1);
            Due.due("drawn till " + till[0] + ": free", x.about(0, 0), 0);
        }
    }

    private static void drawnToWhereItIs() {
        CountyWatch x = road();
        x.tick(5);
        Due.due("till now", x.draw(0, 0, 5), true);
        Due.due("over at once", x.about(0, 0), 0);
        Due.due("till the next minute", x.draw(0, 0, 6), true);
        Due.due("drawn", x.about(0, 0), 3);
        Due.due("till then", x.about(0, 3), 6);
        x.tick(1);
        Due.due("free", x.about(0, 0), 0);
        Due.due("till 30,000", x.draw(0, 0, 30000), true);
        Due.until(x, 20000);
        Due.due("drawn for ever", x.about(0, 0), 3);
    }

    private static void findsFromTo() {
        int[][] finds = {{5, 5, 1}, {5, 6, 1}, {4, 5, 1}, {6, 9, 0}, {0, 4, 0}, {0, 20000, 1}, {5, 20000, 1}, {6, 20000, 0}};
        for (int[] find : finds) {
            CountyWatch x = road();
            x.find(1, 0, find[0], find[1], 1);
            Due.beat(x, "w 4;l");
            x.begin(0, 0);
            x.tick(5);
            Due.due("a find from " + find[0] + " to " + find[1] + " at 5", x.count(8), find[2]);
        }
        CountyWatch x = road();
        x.find(1, 0, 0, 0, 1);
        Due.beat(x, "l");
        x.begin(0, 0);
        x.tick(1);
        Due.due("no look is over at minute 0", x.count(8), 0);
    }

    /** What a find seen at a minute is told by an ACT. */
    private static int seenAt(int minute, int from, String act) {
        CountyWatch x = road();
        x.find(0, 0, from, 20000, 9);
        Due.act(x, act, 0);
        Due.beat(x, "l");
        Due.until(x, minute - 1);
        x.begin(0, 0);
        x.tick(1);
        return x.sighting(0, 3);
    }

    private static void daysAndHours() {
        int[][] hours = {{1, 0}, {59, 0}, {60, 1}, {119, 1}, {120, 2}, {1379, 22}, {1380, 23}, {1439, 23}, {1440, 0}, {1500, 1}};
        for (int[] hour : hours) {
            Due.due("the hour at " + hour[0], seenAt(hour[0], 0, "h=" + hour[1] + "?r"), 2);
        }
        int[][] days = {{1439, 0}, {1440, 1}, {2879, 1}, {2880, 2}, {20000, 13}};
        for (int[] day : days) {
            Due.due("the day at " + day[0], seenAt(day[0], 0, "d=" + day[1] + "?r"), 2);
        }
        Due.due("there since that minute", seenAt(7, 7, "t=0&k=0&w=9&p=0&e=0&n=1&c=1?r"), 2);
        Due.due("there since the minute ahead", seenAt(7, 6, "t=1?r"), 2);
        Due.due("there for as long as can be", seenAt(20000, 0, "t>9999&t=2*9999+2?r"), 2);
    }

    private static void daysOfPoints() {
        CountyWatch x = road();
        Due.pay(x, "m", 0);
        Due.beat(x, "p 0 38;p 0 39;p 0 40");
        x.tick(1400);
        x.begin(0, 0);
        x.tick(1480);
        Due.due("due at 1438 and 1439", x.paid(0, 0, 2880), 2);
        Due.due("due at 1440", x.paid(0, 1, 2880), 1);
        Due.due("day 2 is not over", x.paid(0, 2, 2880), NONE);
        x = road();
        Due.pay(x, "m*10+x", 0);
        Due.beat(x, "p 1 9;p 1 49");
        x.tick(1391);
        x.begin(0, 0);
        x.tick(49);
        Due.due("met on a day ahead of the day it is due", x.paid(0, 0, 1440), 1);
        x.tick(1440);
        Due.due("it counts as it is due", x.paid(0, 1, 2880), 10);
    }

    private static void daysOfSightings() {
        CountyWatch x = road();
        for (int i = 0; i < 3; i++) {
            x.find(1, 0, 1438 + i, 1438 + i, 1);
        }
        Due.act(x, "d=0?t", 0);
        Due.act(x, "d=1?t", 1);
        Due.pay(x, "t*10+a", 0);
        Due.beat(x, "l;l;l");
        Due.until(x, 1437);
        x.begin(0, 0);
        x.tick(1443);
        Due.due("taken at 1438 and 1439", x.paid(0, 0, 2880), 20);
        Due.due("taken at 1440", x.paid(0, 1, 2880), 10);
        Due.act(x, "d=1?n", 1);
        Due.due("it should not have been", x.paid(0, 1, 2880), 1);
        Due.due("as known a minute ahead", x.should(2, 2879), 3);
        Due.due("the other day is as it was", x.paid(0, 0, 2880), 20);
    }

    private static void knownAtTheHouse() {
        CountyWatch x = road();
        x.constable(1, 0, 1);
        x.constable(1, 0, 5);
        x.find(1, 0, 0, 9, 1);
        x.find(1, 1, 0, 9, 1);
        x.find(1, 5, 0, 9, 1);
        Due.act(x, "d=0?r", 0);
        Due.beat(x, "l;w 3");
        for (int m = 0; m < 3; m++) {
            x.begin(m, 0);
        }
        x.tick(20);
        Due.due("at the house itself", x.sighting(0, 5), 1);
        Due.due("ten minutes off", x.sighting(1, 5), 11);
        Due.due("without a walk never", x.sighting(2, 5), NONE);
        int[][] heard = {{0, 0}, {1, 1}, {10, 1}, {11, 2}, {20, 2}};
        for (int[] pair : heard) {
            Due.due("heard at " + pair[0], x.heard(pair[0]), pair[1]);
        }
        x = road();
        x.find(1, 0, 0, 9, 1);
        Due.act(x, "d=0?n", 0);
        Due.beat(x, "l;w 3");
        x.begin(0, 0);
        x.tick(3);
        Due.due("noted, a minute ahead of being free", x.sighting(0, 5), NONE);
        x.tick(1);
        Due.due("noted, as it is free", x.sighting(0, 5), 4);
        Due.due("heard at 3", x.heard(3), 0);
        Due.due("heard at 4", x.heard(4), 1);
    }

    private static void toldInTheVeryMinute() {
        CountyWatch x = road();
        x.find(1, 0, 0, 9, 1);
        Due.act(x, "d=0?n", 0);
        Due.beat(x, "l;w 9");
        x.begin(0, 0);
        x.tick(1);
        Due.act(x, "d=0?r", 0);
        Due.due("what was done", x.sighting(0, 3), 1);
        Due.due("should, by what was told in it", x.should(0, 1), 2);
        Due.due("in force by then", x.force(0, 1), 1);
        Due.due("in force a minute ahead", x.force(0, 0), 0);
        x.tick(1);
        Due.act(x, "d=0?t", 1);
        Due.due("from the next day on", x.should(0, 2), 2);
        Due.due("in force on the next day", x.force(1, 2), 2);
        Due.due("in force on the next day, a minute ahead", x.force(1, 1), 1);
    }

    private static void whenRowsAreKnown() {
        CountyWatch x = on("p 7 3;p 1 10");
        Due.due("a row ahead of its beat", x.point(0, 99, 2), NONE);
        Due.due("a row as its beat begins", x.point(0, 100, 2), 103);
        x.tick(5);
        x.cause(0, 9);
        x.tick(5);
        Due.due("the first cause, up to the minute ahead", x.point(0, 104, 4), 2);
        Due.due("the cause told anew", x.point(0, 105, 4), 9);
        Due.due("causes(2) a minute ahead", x.causes(2, 104), 1);
        Due.due("causes(9) a minute ahead", x.causes(9, 104), 0);
        Due.due("causes(2)", x.causes(2, 105), 0);
        Due.due("causes(9)", x.causes(9, 105), 1);
        Due.due("met a minute ahead", x.point(1, 109, 3), 0);
        Due.due("met", x.point(1, 110, 3), 1);
    }

    private static void whenWordsAreKnown() {
        CountyWatch x = new CountyWatch();
        x.tick(3);
        x.need(9, 128);
        x.open(9);
        x.tick(1);
        x.state(0, 7, 15, true);
        x.tick(1);
        x.story(0, 0, 128);
        x.tick(1);
        x.withdraw(15);
        int[] facts = {NONE, NONE, NONE, 0, 1, 1, 0};
        int[] lacks = {NONE, NONE, NONE, 128, 0, 0, 128};
        int[] stand = {NONE, NONE, NONE, 0, 0, 0, 1};
        for (int q = 0; q <= 6; q++) {
            Due.due("the fact at " + q, x.fact(0, 7, q), facts[q]);
            Due.due("it lacks at " + q, x.cased(0, q, 1), lacks[q]);
            Due.due("stories at " + q, x.cased(0, q, 4), stand[q]);
        }
        Due.due("behind now", x.fact(0, 7, 7), NONE);
        Due.due("a word told in the minute of the withdrawal is refused", x.state(0, 7, 15, true), NONE);
    }

    private static void wants() {
        for (int want = 1; want <= 3; want++) {
            CountyWatch x = new CountyWatch();
            x.open(0);
            x.want(7, want);
            for (int many = 0; many <= 4; many++) {
                Due.due(many + " yes of " + want, x.fact(0, 7, 0), many >= want ? 1 : 0);
                x.state(0, 7, many, true);
            }
            for (int witness = 0; witness < 5; witness++) {
                x.state(0, 7, witness, false);
                Due.due("yes and no", x.fact(0, 7, 0), witness < 4 ? 3 : 2);
            }
            for (int witness = 0; witness < 5; witness++) {
                x.withdraw(witness);
                Due.due((4 - witness) + " no of " + want, x.fact(0, 7, 0), 4 - witness >= want ? 2 : 0);
            }
        }
    }

    private static void partings() {
        CountyWatch x = new CountyWatch();
        x.open(0);
        for (int i = 0; i < 5; i++) {
            x.story(0, 128, 0);
        }
        Due.due("five against none part nothing", x.next(0), NONE);
        x.story(0, 0, 128);
        Due.due("five against one", x.next(0), 7);
        x.want(7, 2);
        x.state(0, 7, 0, true);
        Due.due("still open", x.next(0), 7);
        x.state(0, 7, 1, true);
        Due.due("proved", x.next(0), NONE);
        x.state(0, 7, 2, false);
        Due.due("in doubt", x.next(0), 7);
    }

    private static void likeness() {
        int[] found = {0, 1, 11, 111, 1111, 11111};
        for (int like = 0; like <= 5; like++) {
            for (int least = 1; least <= 5; least++) {
                CountyWatch x = new CountyWatch();
                x.good(true, 11111);
                x.good(false, found[like]);
                x.least(least);
                Due.due(like + " marks alike, least " + least, x.joining(), like >= least ? like : 0);
                Due.due(like + " marks alike, least " + least, x.joined(0), like >= least ? 0 : NONE);
            }
        }
        CountyWatch x = new CountyWatch();
        x.good(true, 0);
        x.good(false, 0);
        Due.due("five marks of 0", x.joining(), 5);
        x.good(true, 99999);
        x.good(false, 99999);
        Due.due("five marks of 9", x.joining(), 10);
        Due.due("to each its own", x.rivals(1), 2);
    }

    private static void watchesFromTo() {
        int[][] watches = {{5, 5, 1}, {0, 5, 1}, {5, 1440, 1}, {6, 1440, 0}, {0, 4, 0}, {4, 6, 1}};
        for (int[] watch : watches) {
            CountyWatch x = new CountyWatch();
            Due.beat(x, "w 4;l");
            x.watch(0, watch[0], watch[1]);
            Due.due("a look at 5, a watch from " + watch[0] + " to " + watch[1], x.sees(0, 0), watch[2]);
        }
        CountyWatch x = new CountyWatch();
        x.watch(0, 1440, 1440);
        x.watch(0, 0, 0);
        Due.beat(x, "(w 239;w 1)5;w 239;l");
        Due.beat(x, "p 0 1439;l");
        Due.beat(x, "p 0 1440;l");
        Due.due("a look at 1,440", x.sees(0, 0), 1);
        Due.due("a look at 1,440 behind a point", x.sees(1, 0), 1);
        Due.due("a look at 1,441", x.sees(2, 0), 0);
        Due.due("no look is over at 0", x.sees(0, 1), 0);
        Due.due("so no share is safe", x.safe(7), 0);
    }

    private static void sharesOfTwelve() {
        CountyWatch x = new CountyWatch();
        for (int i = 1; i <= 5; i++) {
            Due.beat(x, "w " + i + ";l");
            Due.due(i + " beats without watches", x.safe((1 << i) - 1), 12);
            Due.due("the lowest has all", x.share((1 << i) - 1, 0), 12);
        }
        int[] safe = {12, 6, 4, 3, 2};
        for (int i = 0; i < 5; i++) {
            x.watch(0, i + 2, i + 2);
            Due.due("each sees one of " + (i + 1), x.safe((1 << (i + 1)) - 1), safe[i]);
        }
        int[] shares = {4, 2, 2, 2, 2};
        for (int i = 0; i < 5; i++) {
            Due.due("the lowest has more", x.share(31, i), shares[i]);
        }
    }

    private static void fairsInTime() {
        int[][] fairs = {{0, 0, 0}, {1, 9, NONE}, {1, 10, 10}, {1, 11, 10}, {1, 30000, 10}, {2, 30000, NONE}};
        for (int[] fair : fairs) {
            CountyWatch x = road();
            x.fair(fair[0], fair[1], 1);
            Due.due("a fair at " + fair[0] + ", " + fair[1], x.lending(1), fair[2]);
            Due.due("a fair at " + fair[0] + ", " + fair[1], x.lent(0), fair[2] == NONE ? NONE : 0);
        }
        CountyWatch x = road();
        x.fair(0, 5, 1);
        x.tick(5);
        Due.due("there in its very minute", x.lending(1), 0);
        x.tick(1);
        Due.due("its minute is over", x.lending(1), NONE);
        x.fairs();
        Due.due("without fairs", x.lending(1), 0);
        x.fair(0, 100, 2);
        Due.due("two wanted, one there", x.lending(0), NONE);
        x.constable(1, 0, 0);
        Due.due("two wanted, two there", x.lending(0), 0);
        x.fair(0, 100, 1);
        Due.due("three wanted, two there", x.lending(0), NONE);
    }

    private static void complaints() {
        CountyWatch x = road();
        x.draw(0, 1, 15);
        x.tick(30);
        int[][] asked = {{1, 0, 9, 2}, {1, 9, 10, 1}, {1, 10, 10, 1}, {1, 14, 14, 1}, {1, 14, 15, 1}, {1, 15, 15, 2},
            {1, 15, 24, 2}, {1, 25, 30, 0}, {0, 25, 25, 1}, {0, 24, 24, 2}, {0, 10, 14, 0}, {1, 24, 25, 2}, {0, 30, 30, 1}};
        for (int[] one : asked) {
            Due.due("at " + one[0] + " from " + one[1] + " to " + one[2], x.complain(0, one[0], one[1], one[2]), one[3]);
        }
        Due.due("up to the minute behind now", x.complain(0, 0, 30, 31), NONE);
        Due.until(x, 20000);
        Due.due("1,440 minutes at the end", x.complain(0, 0, 18561, 20000), 1);
        Due.due("1,441 minutes at the end", x.complain(0, 0, 18560, 20000), NONE);
    }

    private static void habits() {
        CountyWatch x = new CountyWatch();
        for (int m = 0; m < 12; m++) {
            x.constable(1, 0, 0);
            Due.due("at first of three", x.habit(1, 2), m < 3 ? CountyWatch.HIDDEN : 10 * m);
            x.mark(1, m, 10);
            x.mark(2, m, 0);
        }
        for (int size = 1; size <= 12; size++) {
            x.size(size);
            Due.due("of " + size, x.habit(1, 2), 120);
            Due.due("of " + size + ", the other way", x.habit(2, 1), -120);
        }
        x.mark(3, 11, 4);
        Due.due("one of twelve", x.habit(1, 3), CountyWatch.HIDDEN);
        x.size(2);
        Due.due("one of two", x.habit(1, 3), CountyWatch.HIDDEN);
        x.size(1);
        Due.due("one of one", x.habit(1, 3), 6);
        Due.due("size 0", x.size(0), false);
        Due.due("size 13", x.size(13), false);
        Due.due("one of one, still", x.habit(1, 3), 6);
        Due.due("none of one", x.habit(0, 1), CountyWatch.HIDDEN);
    }

    private static void classesFromADay() {
        CountyWatch x = road();
        x.find(1, 0, 0, 20000, 1);
        Due.act(x, "c=2?r;c=1?n", 0);
        Due.beat(x, "l;l;l");
        x.rank(0, 2, 1);
        Due.until(x, 1438);
        x.begin(0, 0);
        x.tick(3);
        Due.due("class at 1439", x.sighting(0, 3), 1);
        Due.due("class at 1440", x.sighting(1, 3), 2);
        Due.due("day 0", x.ranked(0, 0, 1441), 1);
        Due.due("day 1", x.ranked(0, 1, 0), 2);
        x.rank(0, 3, 1);
        Due.due("a minute ahead", x.ranked(0, 1, 1440), 2);
        Due.due("as told last", x.ranked(0, 1, 1441), 3);
        x.rank(0, 4, 30);
        Due.due("the day ahead of the last", x.ranked(0, 29, 1441), 3);
        Due.due("the last day", x.ranked(0, 30, 1441), 4);
    }
}
