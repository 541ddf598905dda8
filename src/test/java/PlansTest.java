import java.util.Random;

/** Promises 40 to 47: watches, shares and fairs, against all shares and all lendings tried one by one. */
public final class PlansTest {
    private static int[][] sees;
    private static int bestSafe;
    private static int bestSum;
    private static int[] bestShares;

    private static int[][] cost;
    private static int[] wanted;
    private static int bestCost;
    private static int[] bestLent;

    public static void main(String[] args) {
        watches();
        seeing();
        shareBounds();
        withoutWatches();
        sharesFollowWhatComes();
        fairBounds();
        whoCanBeLent();
        allTwelveToFour();
        Random random = new Random(5);
        for (int run = 0; run < 60; run++) {
            againstAllShares(random);
        }
        for (int run = 0; run < 80; run++) {
            againstAllLendings(random);
        }
        Due.finish("PlansTest");
    }

    private static void watches() {
        CountyWatch x = new CountyWatch();
        Due.due("watch", x.watch(0, 0, 1440), 0);
        Due.due("watch", x.watch(15, 1440, 1440), 1);
        Due.due("place", x.watch(16, 0, 0), -1);
        Due.due("place", x.watch(-1, 0, 0), -1);
        Due.due("from", x.watch(0, -1, 0), -1);
        Due.due("to", x.watch(0, 0, 1441), -1);
        Due.due("from behind to", x.watch(0, 5, 4), -1);
        for (int i = 2; i < 8; i++) {
            Due.due("watch", x.watch(0, 0, 0), i);
        }
        Due.due("watch 8", x.watch(0, 0, 0), -1);
        Due.due("count(13)", x.count(13), 8);
    }

    private static void seeing() {
        CountyWatch x = new CountyWatch();
        x.path(0, 1, 10);
        Due.beat(x, "g 9;l;p 1 5;l;p 1 30;l;w 5;l;p 9 60;l;p 0 100;l");
        int[][] looks = {{0, 1}, {1, 12}, {1, 31}, {1, 37}, {1, 38}, {0, 101}};
        for (int[] look : looks) {
            CountyWatch y = new CountyWatch();
            y.path(0, 1, 10);
            Due.beat(y, "g 9;l;p 1 5;l;p 1 30;l;w 5;l;p 9 60;l;p 0 100;l");
            y.watch(look[0], look[1], look[1]);
            Due.due("sees at " + look[1], y.sees(0, 0), 1);
            y.watch(1 - look[0], look[1], look[1]);
            Due.due("sees elsewhere at " + look[1], y.sees(0, 1), 0);
        }
        x.watch(1, 13, 30);
        Due.due("sees between", x.sees(0, 0), 0);
        x.watch(1, 12, 12);
        x.path(0, 1, 9);
        Due.due("by the walk that is now", x.sees(0, 1), 0);
        Due.due("no such beat", x.sees(1, 0), -1);
        Due.due("no such beat", x.sees(-1, 0), -1);
        Due.due("no such watch", x.sees(0, 2), -1);
        Due.due("no such watch", x.sees(0, -1), -1);
    }

    private static void shareBounds() {
        CountyWatch x = new CountyWatch();
        Due.due("no beats", x.safe(1), -1);
        for (int i = 0; i < 7; i++) {
            Due.beat(x, "l");
        }
        Due.due("none", x.safe(0), -1);
        Due.due("below", x.safe(-1), -1);
        Due.due("no such beat", x.safe(128), -1);
        Due.due("six of them", x.safe(63), -1);
        Due.due("five of them", x.safe(0b1110011), 12);
        Due.due("share, six of them", x.share(63, 0), -1);
        Due.due("share, none of them", x.share(0b1110011, 2), -1);
        Due.due("share, no such beat", x.share(0b1110011, 7), -1);
        Due.due("share, no such beat", x.share(0b1110011, -1), -1);
        Due.due("share, no such beat", x.share(0b1110011, 33), -1);
        Due.due("share", x.share(0b1110011, 1), 0);
    }

    private static void withoutWatches() {
        CountyWatch x = new CountyWatch();
        Due.beat(x, "l");
        Due.beat(x, "l");
        Due.due("safe", x.safe(3), 12);
        Due.due("the lowest has more", x.share(3, 0), 12);
        Due.due("the other", x.share(3, 1), 0);
        Due.due("alone", x.share(2, 1), 12);
    }

    private static void sharesFollowWhatComes() {
        CountyWatch x = new CountyWatch();
        Due.beat(x, "g 1;l");
        Due.beat(x, "w 30;l");
        Due.due("safe", x.safe(3), 12);
        x.watch(0, 31, 31);
        Due.due("a watch came", x.share(3, 1), 12);
        x.watch(1, 0, 100);
        Due.due("none sees it", x.safe(3), 0);
        x.path(0, 1, 5);
        Due.due("a path came", x.safe(3), 6);
    }

    private static void fairBounds() {
        CountyWatch x = new CountyWatch();
        Due.due("no fairs", x.lending(0), 0);
        Due.due("no fairs", x.lending(1), 0);
        Due.due("no such what", x.lending(2), -1);
        Due.due("no such what", x.lending(-1), -1);
        Due.due("place", x.fair(16, 0, 1), -1);
        Due.due("minute", x.fair(0, -1, 1), -1);
        Due.due("minute", x.fair(0, 30001, 1), -1);
        Due.due("wanted", x.fair(0, 0, 0), -1);
        Due.due("wanted", x.fair(0, 0, 4), -1);
        for (int i = 0; i < 4; i++) {
            Due.due("fair", x.fair(15, 30000, 3), i);
        }
        Due.due("fair 4", x.fair(0, 0, 1), -1);
        Due.due("count(14)", x.count(14), 4);
        Due.due("nobody to lend", x.lending(0), -1);
        Due.due("no such constable", x.lent(0), -1);
        x.fairs();
        Due.due("no fairs", x.count(14), 0);
        Due.due("no fairs", x.lending(0), 0);
        x.constable(1, 0, 0);
        Due.due("lent to none", x.lent(0), -1);
        Due.due("fair again", x.fair(0, 0, 1), 0);
        Due.due("lent", x.lent(0), 0);
        Due.due("no such constable", x.lent(1), -1);
        Due.due("no such constable", x.lent(-1), -1);
    }

    private static CountyWatch oneMan() {
        CountyWatch x = new CountyWatch();
        x.path(0, 1, 10);
        x.path(1, 2, 5);
        x.constable(1, 0, 0);
        return x;
    }

    private static void whoCanBeLent() {
        CountyWatch x = oneMan();
        x.fair(2, 14, 1);
        Due.due("too far", x.lending(0), -1);
        x.fairs();
        x.fair(2, 15, 1);
        Due.due("just there", x.lending(1), 15);
        x.tick(1);
        Due.due("too late", x.lending(1), -1);
        x = oneMan();
        Due.beat(x, "g 1;p 1 20;p 2 30;w 5");
        x.begin(0, 0);
        x.tick(3);
        x.fair(2, 15, 1);
        Due.due("from the place it goes to", x.lending(1), 5);
        Due.due("points lost", x.lending(0), 2);
        x.fairs();
        x.fair(2, 14, 1);
        Due.due("as it is there", x.lending(1), -1);
        x.fairs();
        x.fair(0, 25, 1);
        x.tick(9);
        Due.due("one is met", x.lending(0), 1);
        Due.due("from where it waits", x.lending(1), 10);
        x.tick(22);
        x.fairs();
        x.fair(0, 20000, 1);
        Due.due("none is open", x.lending(0), 0);
        x.tick(5);
        Due.due("going home", x.about(0, 0), 2);
        Due.due("going home", x.lending(0), -1);
        x.ill(0, true);
        Due.due("ill", x.lending(0), -1);
        x.ill(0, false);
        Due.due("free", x.lending(0), 0);
        x.draw(0, 1, 100);
        Due.due("drawn", x.lending(0), -1);
    }

    private static void allTwelveToFour() {
        CountyWatch x = new CountyWatch();
        x.path(0, 1, 7);
        for (int m = 0; m < 12; m++) {
            x.constable(1, 0, m < 9 ? 0 : 1);
        }
        for (int f = 0; f < 4; f++) {
            x.fair(f == 0 ? 1 : 0, 6, 3);
        }
        Due.due("walks", x.lending(1), 0);
        for (int m = 0; m < 12; m++) {
            Due.due("lent", x.lent(m), m < 9 ? 1 + m / 3 : 0);
        }
        x.ill(11, true);
        Due.due("one too few", x.lending(0), -1);
        Due.due("one too few", x.lent(0), -1);
    }

    private static void againstAllShares(Random random) {
        CountyWatch x = new CountyWatch();
        x.path(0, 1, 3);
        x.path(1, 2, 4);
        int many = 1 + random.nextInt(7);
        for (int b = 0; b < many; b++) {
            StringBuilder text = new StringBuilder("w " + (1 + random.nextInt(9)));
            for (int i = random.nextInt(5); i >= 0; i--) {
                text.append(random.nextBoolean() ? ";l" : ";g " + random.nextInt(3));
            }
            Due.beat(x, text + ";l");
        }
        int watches = random.nextInt(9);
        for (int w = 0; w < watches; w++) {
            int from = random.nextInt(12);
            x.watch(random.nextInt(3), from, from + random.nextInt(15));
        }
        int some = 1 + random.nextInt((1 << many) - 1);
        if (Integer.bitCount(some) > 5) {
            return;
        }
        int[] which = new int[Integer.bitCount(some)];
        sees = new int[which.length][watches];
        for (int b = 0, i = 0; b < many; b++) {
            if ((some >> b & 1) == 1) {
                for (int w = 0; w < watches; w++) {
                    sees[i][w] = x.sees(b, w);
                }
                which[i++] = b;
            }
        }
        bestSafe = -1;
        tryShares(0, 12, new int[which.length], watches);
        Due.due("safe", x.safe(some), bestSafe);
        for (int i = 0; i < which.length; i++) {
            Due.due("share", x.share(some, which[i]), bestShares[i]);
        }
    }

    /** Rising, so that of several the last one tried has more for the lowest BEAT. */
    private static void tryShares(int i, int left, int[] shares, int watches) {
        if (i < shares.length) {
            for (int mine = i == shares.length - 1 ? left : 0; mine <= left; mine++) {
                shares[i] = mine;
                tryShares(i + 1, left - mine, shares, watches);
            }
            return;
        }
        int safe = 12;
        int sum = 0;
        for (int w = 0; w < watches; w++) {
            int seen = 0;
            for (int b = 0; b < shares.length; b++) {
                seen += shares[b] * sees[b][w];
            }
            safe = Math.min(safe, seen);
            sum += seen;
        }
        if (safe > bestSafe || safe == bestSafe && sum >= bestSum) {
            bestSafe = safe;
            bestSum = sum;
            bestShares = shares.clone();
        }
    }

    private static void againstAllLendings(Random random) {
        CountyWatch x = new CountyWatch();
        for (int i = 0; i < 5; i++) {
            x.path(i, i + 1, 1 + random.nextInt(4));
        }
        Due.beat(x, "g 1;p 2 20;p 3 25");
        Due.beat(x, "p 4 30;l");
        int men = 1 + random.nextInt(6);
        for (int m = 0; m < men; m++) {
            x.constable(1, 0, random.nextInt(4));
        }
        for (int m = 0; m < men; m++) {
            int kind = random.nextInt(4);
            if (kind < 2) {
                x.begin(m, kind);
            } else if (kind == 2 && random.nextInt(3) == 0) {
                x.draw(m, 3, 50);
            }
            x.tick(random.nextInt(2));
        }
        int[] open = openPoints(x, men);
        int fairs = 1 + random.nextInt(3);
        wanted = new int[fairs];
        cost = new int[men][fairs];
        for (int f = 0; f < fairs; f++) {
            int place = random.nextInt(6);
            int minute = x.count(0) + 2 + random.nextInt(30);
            wanted[f] = 1 + random.nextInt(2);
            x.fair(place, minute, wanted[f]);
            for (int m = 0; m < men; m++) {
                int walked = plainWalk(x, m, place, minute);
                cost[m][f] = walked < 0 ? -1 : walked + 10000 * open[m];
            }
        }
        bestCost = Integer.MAX_VALUE;
        bestLent = null;
        tryLendings(0, 0, new int[men]);
        Due.due("lending 0", x.lending(0), bestLent == null ? -1 : bestCost / 10000);
        Due.due("lending 1", x.lending(1), bestLent == null ? -1 : bestCost % 10000);
        for (int m = 0; m < men; m++) {
            Due.due("lent", x.lent(m), bestLent == null ? -1 : bestLent[m]);
        }
    }

    private static int[] openPoints(CountyWatch x, int men) {
        int[] open = new int[men];
        int now = x.count(0);
        int rows = x.count(4);
        for (int i = 0; i < rows; i++) {
            open[x.point(i, now, 0)] += x.point(i, now, 3) == 0 ? 1 : 0;
        }
        return open;
    }

    /** The minutes it walks, or -1 if it can't be lent. */
    private static int plainWalk(CountyWatch x, int m, int place, int minute) {
        if (x.about(m, 0) > 1) {
            return -1;
        }
        boolean goes = x.about(m, 1) == -1;
        int walk = x.walk(goes ? x.about(m, 2) : x.about(m, 1), place);
        int start = goes ? x.about(m, 3) : x.count(0);
        return start + walk > minute ? -1 : walk;
    }

    /** In the order of ties, so that the first of the best ones is due. */
    private static void tryLendings(int m, int sum, int[] to) {
        if (m == to.length) {
            for (int left : wanted) {
                if (left > 0) {
                    return;
                }
            }
            if (sum < bestCost) {
                bestCost = sum;
                bestLent = to.clone();
            }
            return;
        }
        for (int f = 0; f < wanted.length; f++) {
            if (wanted[f] > 0 && cost[m][f] >= 0) {
                wanted[f]--;
                to[m] = f;
                tryLendings(m + 1, sum + cost[m][f], to);
                wanted[f]++;
            }
        }
        to[m] = -1;
        tryLendings(m + 1, sum, to);
    }
}
