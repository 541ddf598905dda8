import java.util.Arrays;
import java.util.Random;

/** Promises 1 to 4 and 10 to 18, and complaints (57): where constables are, and their points. */
public final class WalksTest {
    public static void main(String[] args) {
        newObject();
        paths();
        shortestWalks();
        constables();
        beginning();
        points();
        drawing();
        drawnOnTheWay();
        illness();
        ticking();
        whereabouts();
        complaints();
        causes();
        fullRows();
        for (int seed = 0; seed < 250; seed++) {
            againstPlainWalk(new Random(seed));
        }
        Due.finish("WalksTest");
    }

    private static void newObject() {
        CountyWatch x = new CountyWatch();
        for (int what = 0; what <= 18; what++) {
            Due.due("count(" + what + ") of a new object", x.count(what), 0);
        }
        Due.due("count(19)", x.count(19), -1);
        Due.due("count(-1)", x.count(-1), -1);
    }

    private static void paths() {
        CountyWatch x = new CountyWatch();
        Due.due("path", x.path(0, 1, 1), 0);
        Due.due("path", x.path(15, 1, 60), 1);
        Due.due("path again", x.path(0, 1, 5), 2);
        Due.due("path 0", x.path(0, 1, 0), -1);
        Due.due("path 61", x.path(0, 1, 61), -1);
        Due.due("path alike", x.path(3, 3, 1), -1);
        Due.due("path to 16", x.path(3, 16, 1), -1);
        Due.due("path from -1", x.path(-1, 3, 1), -1);
        Due.due("walk", x.walk(0, 15), 61);
        Due.due("walk back", x.walk(15, 0), 61);
        Due.due("walk to itself", x.walk(9, 9), 0);
        Due.due("walk to 16", x.walk(0, 16), -1);
        Due.due("walk from 16", x.walk(16, 16), -1);
        Due.due("walk from -1", x.walk(-1, -1), -1);
        Due.due("no walk", x.walk(0, 2), -1);
        for (int i = 3; i < 40; i++) {
            Due.due("path", x.path(4, 5, 60), i);
        }
        Due.due("path 40", x.path(4, 5, 1), -1);
        Due.due("count(1)", x.count(1), 40);
        Due.due("walk", x.walk(4, 5), 60);
    }

    private static void shortestWalks() {
        Random random = new Random(3);
        for (int run = 0; run < 30; run++) {
            CountyWatch x = new CountyWatch();
            int[][] plain = new int[16][16];
            for (int[] row : plain) {
                Arrays.fill(row, 1000000);
            }
            for (int i = 0; i < 16; i++) {
                plain[i][i] = 0;
            }
            for (int i = 0; i < 20; i++) {
                int a = random.nextInt(16);
                int b = random.nextInt(16);
                int minutes = 1 + random.nextInt(60);
                if (x.path(a, b, minutes) != -1) {
                    plain[a][b] = Math.min(plain[a][b], minutes);
                    plain[b][a] = plain[a][b];
                }
            }
            for (int k = 0; k < 16; k++) {
                for (int i = 0; i < 16; i++) {
                    for (int j = 0; j < 16; j++) {
                        plain[i][j] = Math.min(plain[i][j], plain[i][k] + plain[k][j]);
                    }
                }
            }
            for (int i = 0; i < 256; i++) {
                int want = plain[i / 16][i % 16];
                Due.due("walk", x.walk(i / 16, i % 16), want >= 1000000 ? -1 : want);
            }
        }
    }

    private static void constables() {
        CountyWatch x = new CountyWatch();
        Due.due("constable", x.constable(1, 0, 0), 0);
        Due.due("constable", x.constable(4, 40, 15), 1);
        Due.due("class 0", x.constable(0, 0, 0), -1);
        Due.due("class 5", x.constable(5, 0, 0), -1);
        Due.due("years -1", x.constable(1, -1, 0), -1);
        Due.due("years 41", x.constable(1, 41, 0), -1);
        Due.due("home 16", x.constable(1, 0, 16), -1);
        Due.due("home -1", x.constable(1, 0, -1), -1);
        Due.row("about", aboutAll(x, 1), 0, 15, -1, -1, -1, 0, 0, 40, 15);
        for (int i = 2; i < 12; i++) {
            Due.due("constable", x.constable(1, 0, 0), i);
        }
        Due.due("constable 12", x.constable(1, 0, 0), -1);
        Due.throwsAbout(x, 12, 0);
        Due.throwsAbout(x, -1, 0);
        Due.throwsAbout(x, 0, 9);
        Due.throwsAbout(x, 0, -1);
        Due.throwsAbout(new CountyWatch(), 0, 0);
    }

    private static int[] aboutAll(CountyWatch x, int constable) {
        int[] all = new int[9];
        for (int what = 0; what < 9; what++) {
            all[what] = x.about(constable, what);
        }
        return all;
    }

    private static CountyWatch road() {
        CountyWatch x = new CountyWatch();
        x.path(0, 1, 10);
        x.path(1, 2, 5);
        x.constable(2, 5, 0);
        return x;
    }

    private static void beginning() {
        CountyWatch x = road();
        Due.beat(x, "g 0;g 9;p 0 0;p 9 3;w 3;l");
        Due.due("begin, no such constable", x.begin(1, 0), false);
        Due.due("begin, no such constable", x.begin(-1, 0), false);
        Due.due("begin, no such beat", x.begin(0, 1), false);
        Due.due("begin, no such beat", x.begin(0, -1), false);
        Due.due("begin", x.begin(0, 0), true);
        Due.row("what takes no time is done at once", aboutAll(x, 0), 1, 0, -1, 3, 4, 1, 1, 5, 0);
        Due.due("begin, not free", x.begin(0, 0), false);
        Due.due("met at once", x.point(0, 0, 3), 1);
        Due.due("no walk", x.point(1, 0, 3), 2);
        Due.due("no walk, cause", x.point(1, 0, 4), 2);
        x.tick(3);
        Due.row("looks", aboutAll(x, 0), 1, 0, -1, 4, 5, 1, 1, 5, 0);
        x.tick(1);
        Due.row("home at once", aboutAll(x, 0), 0, 0, -1, -1, -1, 1, 1, 5, 0);
        Due.beat(x, "g 9;g 0");
        Due.due("begin of nothing", x.begin(0, 1), true);
        Due.due("over at once", x.about(0, 0), 0);
        Due.beat(x, "g 2");
        x.begin(0, 2);
        x.tick(14);
        Due.row("on its way", aboutAll(x, 0), 1, -1, 2, 19, 0, 1, 1, 5, 0);
        x.path(0, 2, 1);
        x.tick(1);
        Due.row("home by the new path", aboutAll(x, 0), 2, -1, 0, 20, -1, 1, 1, 5, 0);
        x.tick(1);
        Due.due("free", x.about(0, 0), 0);
    }

    private static void points() {
        CountyWatch x = road();
        x.tick(100);
        Due.beat(x, "p 1 10;p 2 14;p 1 30;p 9 50;l");
        x.begin(0, 0);
        Due.row("row 0", rowAt(x, 0, 100), 0, 1, 110, 0, -1);
        Due.row("row 3", rowAt(x, 3, 100), 0, 9, 150, 0, -1);
        Due.row("row 0 ahead of its beat", rowAt(x, 0, 99), -1, -1, -1, -1, -1);
        Due.row("row 0 behind now", rowAt(x, 0, 101), -1, -1, -1, -1, -1);
        Due.row("row -1", rowAt(x, -1, 100), -1, -1, -1, -1, -1);
        Due.row("row 4", rowAt(x, 4, 100), -1, -1, -1, -1, -1);
        Due.due("no such what", x.point(0, 100, 5), -1);
        Due.due("no such what", x.point(0, 100, -1), -1);
        x.tick(10);
        Due.row("met just in time, goes on", aboutAll(x, 0), 1, -1, 2, 115, 1, 1, 0, 5, 0);
        x.tick(5);
        Due.row("too late", rowAt(x, 1, 115), 0, 2, 114, 2, 1);
        Due.row("open a minute before", rowAt(x, 1, 114), 0, 2, 114, 0, -1);
        Due.row("goes on", aboutAll(x, 0), 1, -1, 1, 120, 2, 1, 1, 5, 0);
        x.tick(5);
        Due.row("met early, waits", aboutAll(x, 0), 1, 1, -1, 130, 2, 2, 1, 5, 0);
        Due.row("met as it comes", rowAt(x, 2, 120), 0, 1, 130, 1, -1);
        x.tick(10);
        Due.row("no walk", rowAt(x, 3, 130), 0, 9, 150, 2, 2);
        Due.row("looks", aboutAll(x, 0), 1, 1, -1, 131, 4, 2, 2, 5, 0);
        x.tick(11);
        Due.row("free", aboutAll(x, 0), 0, 0, -1, -1, -1, 2, 2, 5, 0);
        Due.due("count(4)", x.count(4), 4);
    }

    private static int[] rowAt(CountyWatch x, int i, int q) {
        int[] all = new int[5];
        for (int what = 0; what < 5; what++) {
            all[what] = x.point(i, q, what);
        }
        return all;
    }

    private static void drawing() {
        CountyWatch x = road();
        x.tick(20);
        Due.due("draw, no such constable", x.draw(1, 1, 50), false);
        Due.due("draw, no such place", x.draw(0, 16, 50), false);
        Due.due("draw, no walk from home", x.draw(0, 9, 50), false);
        Due.due("draw, a minute that is over", x.draw(0, 1, 19), false);
        Due.due("draw, above 30,000", x.draw(0, 1, 30001), false);
        Due.due("draw to where it is till now", x.draw(0, 0, 20), true);
        Due.due("free again", x.about(0, 0), 0);
        Due.due("draw", x.draw(0, 1, 30000), true);
        Due.row("goes there", aboutAll(x, 0), 3, -1, 1, 30, -1, 0, 0, 5, 0);
        Due.due("drawn already", x.draw(0, 1, 40), false);
        x.tick(10);
        Due.row("stays there", aboutAll(x, 0), 3, 1, -1, 30000, -1, 0, 0, 5, 0);
        Due.due("drawn already", x.draw(0, 1, 40), false);
        Due.due("ill", x.ill(0, true), true);
        Due.due("draw, ill", x.draw(0, 1, 40), false);
        x.ill(0, false);
        x.draw(0, 1, 30);
        x.tick(10);
        Due.row("the minute is over: home", aboutAll(x, 0), 2, -1, 0, 50, -1, 0, 0, 5, 0);
        Due.due("drawn while going home", x.draw(0, 0, 55), true);
        Due.row("goes on home", aboutAll(x, 0), 3, -1, 0, 50, -1, 0, 0, 5, 0);
        x.tick(10);
        Due.row("stays at home", aboutAll(x, 0), 3, 0, -1, 55, -1, 0, 0, 5, 0);
        x.tick(5);
        Due.row("free", aboutAll(x, 0), 0, 0, -1, -1, -1, 0, 0, 5, 0);
    }

    private static void drawnOnTheWay() {
        CountyWatch x = road();
        Due.beat(x, "p 1 10;g 2;p 0 90;p 1 200");
        x.begin(0, 0);
        x.tick(12);
        Due.due("draw", x.draw(0, 0, 31), true);
        Due.row("goes on to the place it went to", aboutAll(x, 0), 3, -1, 2, 15, -1, 1, 2, 5, 0);
        Due.row("met ones stay so", rowAt(x, 0, 12), 0, 1, 10, 1, -1);
        Due.row("dropped", rowAt(x, 1, 12), 0, 0, 90, 2, 3);
        Due.row("dropped", rowAt(x, 2, 12), 0, 1, 200, 2, 3);
        Due.row("known open ahead", rowAt(x, 2, 11), 0, 1, 200, 0, -1);
        x.tick(3);
        Due.row("then to the place", aboutAll(x, 0), 3, -1, 0, 30, -1, 1, 2, 5, 0);
        x.tick(15);
        Due.row("stays", aboutAll(x, 0), 3, 0, -1, 31, -1, 1, 2, 5, 0);
        x.tick(1);
        Due.due("free", x.about(0, 0), 0);
        Due.beat(x, "w 5;l");
        x.begin(0, 1);
        x.tick(2);
        x.draw(0, 0, 40);
        Due.row("waiting is dropped", aboutAll(x, 0), 3, 0, -1, 40, -1, 1, 2, 5, 0);
    }

    private static void illness() {
        CountyWatch x = road();
        Due.due("ill, no such constable", x.ill(1, true), false);
        Due.due("well already", x.ill(0, false), false);
        Due.due("ill", x.ill(0, true), true);
        Due.due("ill already", x.ill(0, true), false);
        Due.due("about", x.about(0, 0), 4);
        Due.beat(x, "g 1;p 2 30");
        Due.due("begin, ill", x.begin(0, 0), false);
        Due.due("well", x.ill(0, false), true);
        x.begin(0, 0);
        x.tick(7);
        Due.due("was on its way", x.about(0, 1), -1);
        x.ill(0, true);
        Due.row("home at once", aboutAll(x, 0), 4, 0, -1, -1, -1, 0, 1, 5, 0);
        Due.row("missed", rowAt(x, 0, 7), 0, 2, 30, 2, 4);
        x.tick(50);
        Due.due("still ill", x.about(0, 0), 4);
        Due.due("behind all that was told in it", x.was(0, 7), 0);
        Due.due("on its way", x.was(0, 6), -1);
    }

    private static void ticking() {
        CountyWatch x = road();
        Due.due("tick(0)", x.tick(0), 0);
        Due.due("tick(-1)", x.tick(-1), -1);
        Due.due("tick(1501)", x.tick(1501), -1);
        Due.due("tick(1500)", x.tick(1500), 1500);
        Due.until(x, 19000);
        Due.due("tick above 20,000", x.tick(1001), -1);
        Due.due("tick to 20,000", x.tick(1000), 20000);
        Due.due("tick(1)", x.tick(1), -1);
        Due.due("tick(0)", x.tick(0), 20000);
        Due.due("was at the end", x.was(0, 20000), 0);
        Due.due("was", x.was(0, 19999), 0);
        Due.due("count(0)", x.count(0), 20000);
    }

    private static void whereabouts() {
        CountyWatch x = road();
        x.tick(5);
        x.constable(1, 0, 2);
        Due.due("now", x.was(1, 5), 2);
        Due.due("not told by then", x.was(1, 4), -1);
        Due.due("behind now", x.was(1, 6), -1);
        Due.due("ahead of all", x.was(1, -1), -1);
        Due.due("no such constable", x.was(2, 5), -1);
        x.draw(1, 1, 30);
        Due.due("on its way", x.was(1, 5), -1);
        x.tick(30);
        Due.due("stays", x.was(1, 29), 1);
        Due.due("goes", x.was(1, 30), -1);
        Due.due("goes", x.was(1, 34), -1);
        Due.due("home", x.was(1, 35), 2);
    }

    private static void complaints() {
        CountyWatch x = road();
        x.tick(10);
        x.constable(1, 0, 2);
        x.draw(1, 1, 30);
        x.tick(40);
        Due.due("was there", x.complain(1, 1, 0, 15), 1);
        Due.due("on its way", x.complain(1, 1, 0, 14), 2);
        Due.due("not told by then", x.complain(1, 1, 0, 9), 0);
        Due.due("elsewhere", x.complain(1, 0, 15, 29), 0);
        Due.due("there though on its way too", x.complain(1, 2, 30, 35), 1);
        Due.due("no such constable", x.complain(2, 1, 0, 15), -1);
        Due.due("no such place", x.complain(1, 16, 0, 15), -1);
        Due.due("from behind to", x.complain(1, 1, 15, 14), -1);
        Due.due("behind now", x.complain(1, 1, 0, 51), -1);
        Due.due("up to now", x.complain(1, 2, 50, 50), 1);
        Due.due("ahead of all", x.complain(1, 1, -1, 5), -1);
        Due.until(x, 2000);
        Due.due("1,440 minutes", x.complain(1, 1, 0, 1439), 1);
        Due.due("1,441 minutes", x.complain(1, 1, 0, 1440), -1);
        Due.due("1,442 minutes", x.complain(1, 1, 0, 1441), -1);
    }

    private static void causes() {
        CountyWatch x = road();
        Due.beat(x, "p 1 9;p 2 20;p 9 5");
        x.begin(0, 0);
        Due.due("open", x.cause(0, 5), false);
        x.tick(15);
        Due.due("cause 0", x.cause(0, 0), false);
        Due.due("cause 10", x.cause(0, 10), false);
        Due.due("met", x.cause(1, 5), false);
        Due.due("no such row", x.cause(3, 5), false);
        Due.due("no such row", x.cause(-1, 5), false);
        Due.due("causes(1)", x.causes(1, 15), 1);
        Due.due("causes(1) ahead", x.causes(1, 9), 0);
        Due.due("cause", x.cause(0, 9), true);
        x.tick(5);
        Due.due("cause", x.cause(0, 7), true);
        Due.due("cause again in it", x.cause(0, 6), true);
        Due.due("as first known", x.point(0, 14, 4), 1);
        Due.due("as told at 15", x.point(0, 15, 4), 9);
        Due.due("as told at 15", x.point(0, 19, 4), 9);
        Due.due("as told last", x.point(0, 20, 4), 6);
        Due.due("causes(9)", x.causes(9, 19), 1);
        Due.due("causes(9)", x.causes(9, 20), 0);
        Due.due("causes(6)", x.causes(6, 20), 1);
        Due.due("causes(2)", x.causes(2, 20), 1);
        Due.due("causes(0)", x.causes(0, 20), -1);
        Due.due("causes(10)", x.causes(10, 20), -1);
        Due.due("causes at -1", x.causes(1, -1), -1);
        Due.due("causes behind now", x.causes(1, 21), -1);
        for (int i = 3; i < 200; i++) {
            Due.due("cause", x.cause(0, 1 + i % 9), true);
        }
        Due.due("cause 200", x.cause(0, 1), false);
    }

    private static void fullRows() {
        CountyWatch x = new CountyWatch();
        for (int i = 0; i < 4; i++) {
            x.constable(1, 0, 0);
        }
        Due.beat(x, "(p 0 5)20;(p 0 5)20;(p 0 5)20;(p 0 5)20;(p 0 5)20;(p 0 5)20;(p 0 5)13");
        Due.beat(x, "p 0 5");
        Due.beat(x, "p 0 5;p 0 6");
        Due.beat(x, "w 1");
        Due.due("133 points", x.beaten(0, 1), 133);
        for (int i = 0; i < 3; i++) {
            Due.due("begin", x.begin(i, 0), true);
        }
        Due.due("399 rows and 2", x.begin(3, 2), false);
        Due.due("still free", x.about(3, 0), 0);
        Due.due("399 rows and 1", x.begin(3, 1), true);
        Due.due("count(4)", x.count(4), 400);
        x.tick(5);
        Due.due("400 rows and 1", x.begin(3, 1), false);
        Due.due("400 rows and none", x.begin(3, 3), true);
    }

    /** A second, plain telling of where one CONSTABLE is: all minutes ahead are written as each thing happens. */
    private static final class PlainWalk {
        final int[] place = new int[4000];
        final int[] about = new int[4000];
        final int[][] walks;
        final int home;
        int target;

        PlainWalk(int[][] walks, int home) {
            this.walks = walks;
            this.home = home;
            Arrays.fill(place, home);
        }

        private int move(int now, int from, int to, int what) {
            int behind = now + walks[from][to];
            for (int m = now; m < behind; m++) {
                place[m] = -1 - to;
                about[m] = what;
            }
            Arrays.fill(place, behind, 4000, to);
            Arrays.fill(about, behind, 4000, what);
            return behind;
        }

        private void homeward(int now, int from) {
            int behind = move(now, from, home, 2);
            Arrays.fill(about, behind, 4000, 0);
        }

        void begin(int now, int[][] steps) {
            int minute = now;
            int at = home;
            Arrays.fill(about, now, 4000, 1);
            for (int[] step : steps) {
                if (step[0] == 0 || step[0] == 2) {
                    if (walks[at][step[1]] >= 0) {
                        minute = move(minute, at, step[1], 1);
                        at = step[1];
                        if (step[0] == 2) {
                            minute = Math.max(minute, now + step[2]);
                        }
                    }
                } else {
                    minute += step[0] == 1 ? step[2] : 1;
                }
            }
            homeward(minute, at);
        }

        void draw(int now, int to, int till) {
            int minute = now;
            int at = place[now];
            if (at < 0) {
                at = -1 - at;
                for (; place[minute] < 0 && place[minute] == place[now] && minute < 3999; minute++) {
                    about[minute] = 3;
                }
            }
            minute = Math.max(move(minute, at, to, 3), till);
            homeward(minute, to);
        }

        void ill(int now, boolean is) {
            Arrays.fill(place, now, 4000, home);
            Arrays.fill(about, now, 4000, is ? 4 : 0);
        }
    }

    private static void againstPlainWalk(Random random) {
        CountyWatch x = new CountyWatch();
        for (int i = 0; i < 6; i++) {
            x.path(random.nextInt(5), random.nextInt(5), 1 + random.nextInt(20));
        }
        int[][] walks = new int[6][6];
        for (int i = 0; i < 36; i++) {
            walks[i / 6][i % 6] = x.walk(i / 6, i % 6);
        }
        int[][][] texts = new int[4][][];
        for (int b = 0; b < 4; b++) {
            texts[b] = randomBeat(x, random);
        }
        PlainWalk[] plain = new PlainWalk[3];
        for (int c = 0; c < 3; c++) {
            int home = random.nextInt(5);
            x.constable(1, 0, home);
            plain[c] = new PlainWalk(walks, home);
        }
        for (int i = 0; i < 60; i++) {
            int now = x.count(0);
            int c = random.nextInt(3);
            PlainWalk p = plain[c];
            Due.due("about", x.about(c, 0), p.about[now]);
            int kind = random.nextInt(5);
            if (kind == 0) {
                int b = random.nextInt(4);
                boolean free = p.about[now] == 0;
                Due.due("begin", x.begin(c, b), free);
                if (free) {
                    p.begin(now, texts[b]);
                }
            } else if (kind == 1) {
                int to = random.nextInt(5);
                int till = now + random.nextInt(30);
                boolean can = p.about[now] < 3 && walks[p.home][to] >= 0;
                Due.due("draw", x.draw(c, to, till), can);
                if (can) {
                    p.draw(now, to, till);
                }
            } else if (kind == 2 && random.nextInt(3) == 0) {
                boolean is = p.about[now] != 4;
                Due.due("ill", x.ill(c, is), true);
                p.ill(now, is);
            } else {
                x.tick(random.nextInt(25));
            }
        }
        comparePlaces(x, plain, random);
    }

    /** Not at all minutes, for an object is promised 512 calls. */
    private static void comparePlaces(CountyWatch x, PlainWalk[] plain, Random random) {
        int now = x.count(0);
        for (int c = 0; c < 3; c++) {
            for (int i = 0; i < 80; i++) {
                int m = random.nextInt(now + 1);
                Due.due("was", x.was(c, m), Math.max(-1, plain[c].place[m]));
            }
            int place = plain[c].place[now];
            Due.due("place", x.about(c, 1), place < 0 ? -1 : place);
            Due.due("target", x.about(c, 2), place < 0 ? -1 - place : -1);
        }
    }

    private static int[][] randomBeat(CountyWatch x, Random random) {
        int[][] steps = new int[1 + random.nextInt(6)][];
        StringBuilder text = new StringBuilder();
        for (int i = 0; i < steps.length; i++) {
            int[] step = {random.nextInt(4), random.nextInt(6), 1 + random.nextInt(60)};
            steps[i] = step;
            text.append(i == 0 ? "" : ";");
            if (step[0] == 0) {
                text.append("g ").append(step[1]);
            } else if (step[0] == 1) {
                text.append("w ").append(step[2]);
            } else if (step[0] == 2) {
                text.append("p ").append(step[1]).append(" ").append(step[2]);
            } else {
                text.append("l");
            }
        }
        Due.beat(x, text.toString());
        return steps;
    }
}
