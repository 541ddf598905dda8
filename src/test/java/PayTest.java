/** Promises 48 to 56 and 58: pay, booking, marks and counts. */
public final class PayTest {
    public static void main(String[] args) {
        payTexts();
        ranks();
        paidBounds();
        pointLetters();
        takenLetters();
        inForce();
        bounded();
        booking();
        bookingOrder();
        fullBook();
        marks();
        Due.finish("PayTest");
    }

    private static void payTexts() {
        CountyWatch x = new CountyWatch();
        Due.due("a fault", Due.pay(x, "c=1", 0), -1);
        Due.due("day 31", Due.pay(x, "c", 31), -1);
        Due.due("day -1", x.pay(-1), -1);
        Due.due("the tape stays", x.count(18), 1);
        Due.due("pay", x.pay(30), 0);
        Due.due("the tape is empty", x.count(18), 0);
        Due.due("empty", x.pay(0), -1);
        Due.due("pay", Due.pay(x, "c=2?1;c", 0), 1);
        Due.due("count(15)", x.count(15), 2);
    }

    private static void ranks() {
        CountyWatch x = new CountyWatch();
        x.constable(1, 0, 0);
        x.constable(2, 0, 0);
        Due.due("no such constable", x.rank(2, 1, 0), false);
        Due.due("no such constable", x.rank(-1, 1, 0), false);
        Due.due("class 0", x.rank(0, 0, 0), false);
        Due.due("class 5", x.rank(0, 5, 0), false);
        Due.due("day -1", x.rank(0, 1, -1), false);
        Due.due("day 31", x.rank(0, 1, 31), false);
        x.tick(10);
        Due.due("rank", x.rank(0, 2, 5), true);
        x.tick(10);
        Due.due("rank", x.rank(0, 3, 3), true);
        x.tick(10);
        Due.due("rank", x.rank(0, 4, 5), true);
        Due.due("day 0", x.ranked(0, 0, 30), 1);
        Due.due("day 2", x.ranked(0, 2, 30), 1);
        Due.due("day 3", x.ranked(0, 3, 30), 3);
        Due.due("day 3 at 19", x.ranked(0, 3, 19), 1);
        Due.due("day 5", x.ranked(0, 5, 30), 4);
        Due.due("day 5 at 29", x.ranked(0, 5, 29), 2);
        Due.due("day 5 at 9", x.ranked(0, 5, 9), 1);
        Due.due("day 30", x.ranked(0, 30, 30), 4);
        Due.due("the other", x.ranked(1, 30, 30), 2);
        Due.due("day 31", x.ranked(0, 31, 30), -1);
        Due.due("day -1", x.ranked(0, -1, 30), -1);
        Due.due("behind now", x.ranked(0, 0, 31), -1);
        Due.due("ahead of all", x.ranked(0, 0, -1), -1);
        Due.due("no such constable", x.ranked(2, 0, 0), -1);
        for (int i = 3; i < 40; i++) {
            Due.due("rank", x.rank(1, 3, 0), true);
        }
        Due.due("rank 40", x.rank(1, 3, 0), false);
    }

    private static void paidBounds() {
        CountyWatch x = new CountyWatch();
        x.constable(2, 7, 0);
        Due.until(x, 4000);
        Due.due("no pay", x.paid(0, 0, 4000), 0);
        Due.pay(x, "c*100+y", 0);
        Due.due("paid", x.paid(0, 1, 4000), 207);
        Due.due("as known ahead", x.paid(0, 1, 3999), 0);
        Due.due("day 2 is not over", x.paid(0, 2, 4000), -1);
        Due.due("day 1 was not over", x.paid(0, 1, 2879), -1);
        Due.due("day 1 was over", x.paid(0, 1, 2880), 0);
        Due.due("day -1", x.paid(0, -1, 4000), -1);
        Due.due("behind now", x.paid(0, 0, 4001), -1);
        Due.due("ahead of all", x.paid(0, 0, -1), -1);
        Due.due("no such constable", x.paid(1, 0, 4000), -1);
    }

    private static void pointLetters() {
        CountyWatch x = new CountyWatch();
        x.path(0, 1, 10);
        x.constable(1, 0, 0);
        x.constable(1, 0, 0);
        Due.pay(x, "m*100+x", 0);
        Due.beat(x, "p 0 0;p 1 5;p 9 7;p 1 30;p 1 1430;p 1 1440");
        x.tick(5);
        x.begin(0, 0);
        Due.until(x, 1440);
        Due.due("met that day, missed by being late", x.paid(0, 0, 1440), 301);
        Due.due("the other", x.paid(1, 0, 1440), 0);
        x.cause(2, 5);
        Due.due("cause 5 counts", x.paid(0, 0, 1440), 302);
        x.tick(1);
        x.cause(2, 4);
        x.cause(1, 3);
        Due.due("causes 2 to 4 do not", x.paid(0, 0, 1441), 300);
        Due.due("as known ahead", x.paid(0, 0, 1440), 302);
        x.cause(1, 9);
        Due.due("cause 9 counts", x.paid(0, 0, 1441), 301);
        lateAtOnce();
        Due.until(x, 2880);
        Due.due("due on the next day", x.paid(0, 1, 2880), 100);
        x.tick(1);
        x.begin(0, 0);
        x.tick(20);
        Due.until(x, 4320);
        Due.due("a third day", x.paid(0, 2, 4320), 301);
    }

    private static void lateAtOnce() {
        CountyWatch x = new CountyWatch();
        x.path(0, 1, 10);
        x.constable(1, 0, 0);
        Due.pay(x, "m*100+x", 0);
        Due.beat(x, "p 1 9");
        x.begin(0, 0);
        x.tick(1440);
        Due.due("row 0 was missed", x.paid(0, 0, 1440), 1);
    }

    private static void takenLetters() {
        CountyWatch x = new CountyWatch();
        x.constable(1, 0, 0);
        for (int kind = 0; kind < 4; kind++) {
            x.find(kind, 0, 0, 10, 1);
        }
        Due.act(x, "k<3?t;k=3?r", 0);
        Due.pay(x, "t*100+a", 0);
        Due.beat(x, "l");
        x.begin(0, 0);
        Due.until(x, 1440);
        Due.due("three rightly", x.paid(0, 0, 1440), 300);
        x.tick(1);
        Due.act(x, "k=1?t;k=3?t;k=0?r", 0);
        Due.due("one rightly, two not", x.paid(0, 0, 1441), 102);
        Due.due("as known ahead", x.paid(0, 0, 1440), 300);
    }

    private static void inForce() {
        CountyWatch x = new CountyWatch();
        x.constable(3, 4, 0);
        Due.pay(x, "1", 1);
        Due.until(x, 5000);
        Due.pay(x, "2", 0);
        Due.pay(x, "3", 2);
        x.tick(1);
        Due.pay(x, "m>0?9;y=4&c=3?4;5", 2);
        Due.due("day 0", x.paid(0, 0, 5001), 2);
        Due.due("day 0 ahead", x.paid(0, 0, 4999), 0);
        Due.due("day 1", x.paid(0, 1, 5001), 1);
        Due.due("day 2", x.paid(0, 2, 5001), 4);
        Due.due("day 2 ahead", x.paid(0, 2, 5000), 3);
        x.rank(0, 2, 2);
        Due.due("the one without condition", x.paid(0, 2, 5001), 5);
        Due.pay(x, "m>0?9", 2);
        Due.due("none holds", x.paid(0, 2, 5001), 0);
    }

    private static void bounded() {
        CountyWatch x = new CountyWatch();
        x.constable(1, 0, 0);
        x.tick(1440);
        Due.pay(x, "0-5", 0);
        Due.due("below 0", x.paid(0, 0, 1440), 0);
        Due.pay(x, "9999+1", 0);
        Due.due("10,000", x.paid(0, 0, 1440), 10000);
        Due.pay(x, "9999+2", 0);
        Due.due("above 10,000", x.paid(0, 0, 1440), 10000);
    }

    private static int[] all(CountyWatch x, int i) {
        int[] row = new int[4];
        for (int what = 0; what < 4; what++) {
            row[what] = x.line(i, what);
        }
        return row;
    }

    private static void booking() {
        CountyWatch x = new CountyWatch();
        Due.due("nobody", x.book(), 0);
        x.constable(1, 0, 0);
        Due.pay(x, "c*10", 0);
        x.tick(1439);
        Due.due("no day is over", x.book(), 0);
        x.tick(1);
        Due.due("one day", x.book(), 1);
        Due.row("line 0", all(x, 0), 0, 0, 10, 1440);
        Due.due("booked already", x.book(), 0);
        x.rank(0, 2, 0);
        x.tick(5);
        Due.due("a difference", x.book(), 1);
        Due.row("line 1", all(x, 1), 0, 0, 10, 1445);
        x.rank(0, 1, 0);
        Due.due("less than booked", x.book(), 1);
        Due.row("line 2", all(x, 2), 0, 0, -10, 1445);
        Due.due("count(16)", x.count(16), 3);
        Due.due("count(17)", x.count(17), 10);
        Due.due("no such what", x.line(0, 4), -1000000);
        Due.due("no such what", x.line(0, -1), -1000000);
        Due.due("no such line", x.line(3, 0), -1000000);
        Due.due("no such line", x.line(-1, 0), -1000000);
    }

    private static void bookingOrder() {
        CountyWatch x = new CountyWatch();
        x.constable(1, 0, 0);
        x.constable(2, 0, 0);
        Due.until(x, 2880);
        Due.pay(x, "c", 0);
        Due.due("book", x.book(), 4);
        Due.row("day 0, 0", all(x, 0), 0, 0, 1, 2880);
        Due.row("day 0, 1", all(x, 1), 1, 0, 2, 2880);
        Due.row("day 1, 0", all(x, 2), 0, 1, 1, 2880);
        Due.row("day 1, 1", all(x, 3), 1, 1, 2, 2880);
        x.constable(3, 0, 0);
        x.rank(0, 4, 1);
        Due.due("one that came later, and a change", x.book(), 3);
        Due.row("day 0, 2", all(x, 4), 2, 0, 3, 2880);
        Due.row("day 1, 0", all(x, 5), 0, 1, 3, 2880);
        Due.row("day 1, 2", all(x, 6), 2, 1, 3, 2880);
    }

    private static void fullBook() {
        CountyWatch x = new CountyWatch();
        for (int i = 0; i < 12; i++) {
            x.constable(1, 0, 0);
        }
        Due.until(x, 1440 * 13);
        for (int i = 1; i <= 3; i++) {
            Due.pay(x, String.valueOf(i), 0);
            Due.due("book", x.book(), 156);
        }
        Due.pay(x, "4", 2);
        Due.due("132 lines do fit", x.book(), 132);
        Due.due("600 lines", x.count(16), 600);
        Due.due("no difference", x.book(), 0);
        x.rank(0, 2, 1);
        x.rank(0, 1, 2);
        Due.pay(x, "c=2?5;3", 0);
        Due.due("day 0", x.paid(0, 0, 1440 * 13), 3);
        Due.due("day 1", x.paid(0, 1, 1440 * 13), 5);
        Due.due("one above is refused", x.book(), -1);
        Due.due("600 lines", x.count(16), 600);
        Due.due("coins", x.count(17), 12 * 2 * 3 + 12 * 11 * 4);
    }

    private static void marks() {
        CountyWatch x = new CountyWatch();
        for (int i = 0; i < 4; i++) {
            x.constable(1, 0, 0);
        }
        Due.due("inspector 4", x.mark(4, 0, 5), false);
        Due.due("inspector -1", x.mark(-1, 0, 5), false);
        Due.due("no such constable", x.mark(0, 4, 5), false);
        Due.due("marks -1", x.mark(0, 0, -1), false);
        Due.due("marks 11", x.mark(0, 0, 11), false);
        for (int i = 0; i < 4; i++) {
            Due.due("mark", x.mark(0, i, 10 - i), true);
        }
        x.mark(3, 0, 0);
        x.mark(3, 1, 10);
        Due.due("fewer than three", x.habit(0, 3), -1000000);
        x.mark(3, 2, 4);
        Due.due("habit", x.habit(0, 3), 10 - 1 + 4);
        Due.due("the other way", x.habit(3, 0), -13);
        x.mark(3, 0, 10);
        Due.due("the latest counts", x.habit(0, 3), 3);
        Due.due("alike", x.habit(0, 0), -1000000);
        Due.due("no such one", x.habit(0, 4), -1000000);
        Due.due("no such one", x.habit(-1, 0), -1000000);
        Due.due("size 0", x.size(0), false);
        Due.due("size 13", x.size(13), false);
        Due.due("size 4", x.size(4), true);
        Due.due("fewer than four", x.habit(0, 3), -1000000);
        Due.due("size 12", x.size(12), true);
        Due.due("size 1", x.size(1), true);
        Due.due("none in common", x.habit(1, 2), -1000000);
        x.mark(1, 3, 7);
        Due.due("none in common", x.habit(1, 3), -1000000);
        Due.due("one in common", x.habit(1, 0), 0);
        for (int i = 4; i < 12; i++) {
            x.constable(1, 0, 0);
        }
        x.mark(1, 11, 9);
        x.mark(0, 11, 2);
        Due.due("the last constable", x.habit(1, 0), 7);
    }
}
