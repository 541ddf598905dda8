import java.util.ArrayList;
import java.util.Arrays;
import java.util.List;
import java.util.Random;

/** Looks, acts and pay against a second, plain telling: whole BEATS planned as they begin, texts as trees. */
public final class PlainWatchTest {
    private static final int NONE = CountyWatch.NONE;
    private static final int LIMIT = 9000;
    private static final int NEVER = 1000000;
    private static final int PLACES = 4;

    private final Random random;
    private final CountyWatch x = new CountyWatch();
    private final List<Man> men = new ArrayList<>();
    private final List<int[][]> beats = new ArrayList<>();
    private final List<int[]> rows = new ArrayList<>();
    private final List<int[]> causes = new ArrayList<>();
    private final List<int[]> ranks = new ArrayList<>();
    private final List<int[]> finds = new ArrayList<>();
    private final List<int[]> sightings = new ArrayList<>();
    private final List<int[]> letters = new ArrayList<>();
    private final List<Told> acts = new ArrayList<>();
    private final List<Told> pays = new ArrayList<>();
    /** An object is promised 512 calls, so WALKS are asked for once. */
    private final int[][] walks = new int[PLACES + 1][PLACES + 1];
    private int now;

    private record Told(int day, int minute, PlainTexts.Sum sense) {
    }

    /** Where it will be as each minute is over (less than 0: on its way), and what it will do, if nothing comes between. */
    private static final class Man {
        final int number;
        final int rank;
        final int years;
        final int home;
        final int[] place = new int[LIMIT];
        final int[] about = new int[LIMIT];
        final List<int[]> looks = new ArrayList<>();
        final List<Integer> freed = new ArrayList<>();
        int freeAt;

        Man(int number, int rank, int years, int home) {
            this.number = number;
            this.rank = rank;
            this.years = years;
            this.home = home;
            Arrays.fill(place, home);
        }
    }

    private PlainWatchTest(int seed) {
        random = new Random(seed);
    }

    public static void main(String[] args) {
        for (int seed = 0; seed < 150; seed++) {
            PlainWatchTest run = new PlainWatchTest(seed);
            run.setUp();
            for (int i = 0; i < 45; i++) {
                run.tellSomething();
            }
            run.goThrough(run.random.nextInt(1500));
            run.compare();
        }
        Due.finish("PlainWatchTest");
    }

    private void setUp() {
        for (int i = 0; i < 4; i++) {
            x.path(random.nextInt(PLACES), random.nextInt(PLACES), 1 + random.nextInt(9));
        }
        for (int from = 0; from <= PLACES; from++) {
            for (int to = 0; to <= PLACES; to++) {
                walks[from][to] = x.walk(from, to);
            }
        }
        for (int m = 0; m < 3; m++) {
            Man man = new Man(m, 1 + random.nextInt(4), random.nextInt(6), random.nextInt(PLACES));
            x.constable(man.rank, man.years, man.home);
            men.add(man);
        }
        for (int b = 0; b < 4; b++) {
            growBeat();
        }
        for (int f = 0; f < 12; f++) {
            int from = random.nextInt(300);
            int[] find = {random.nextInt(4), random.nextInt(PLACES), from, from + random.nextInt(4000), 1 + random.nextInt(4), 0, 0};
            finds.add(find);
            x.find(find[0], find[1], find[2], find[3], find[4]);
        }
        tellText(acts, 0);
        tellText(pays, 0);
    }

    private void growBeat() {
        StringBuilder text = new StringBuilder();
        int[][] steps = new int[2 + random.nextInt(5)][];
        for (int i = 0; i < steps.length; i++) {
            int kind = random.nextInt(6);
            steps[i] = new int[] {Math.min(kind, 3), random.nextInt(PLACES + 1), 1 + random.nextInt(40)};
            text.append(i == 0 ? "" : ";");
            switch (steps[i][0]) {
                case 0 -> text.append("g ").append(steps[i][1]);
                case 1 -> text.append("w ").append(steps[i][2]);
                case 2 -> text.append("p ").append(steps[i][1]).append(" ").append(steps[i][2]);
                default -> text.append("l");
            }
        }
        Due.due("beat", Due.beat(x, text.toString()), beats.size());
        beats.add(steps);
    }

    private void tellText(List<Told> to, int day) {
        boolean act = to == acts;
        PlainTexts texts = new PlainTexts(random, act ? "kwphdcnet" : "cymxta");
        PlainTexts.Grown<PlainTexts.Sum> grown = act ? texts.act() : texts.pay();
        for (int i = 0; i < 100 && grown.text().length() > 160; i++) {
            grown = act ? texts.act() : texts.pay();
        }
        int number = act ? Due.act(x, grown.text(), day) : Due.pay(x, grown.text(), day);
        Due.due("'" + grown.text() + "'", number, to.size());
        to.add(new Told(day, now, grown.sense()));
    }

    private void tellSomething() {
        Man man = men.get(random.nextInt(men.size()));
        int kind = random.nextInt(16);
        if (kind < 5) {
            begin(man, random.nextInt(beats.size()));
        } else if (kind == 5) {
            draw(man, random.nextInt(PLACES), now + random.nextInt(20));
        } else if (kind == 6) {
            makeIll(man, man.about[now] != 4);
        } else if (kind == 7 && ranks.size() < 10) {
            int[] change = {man.number, 1 + random.nextInt(4), random.nextInt(4), now};
            Due.due("rank", x.rank(change[0], change[1], change[2]), true);
            ranks.add(change);
        } else if (kind == 8 && acts.size() < 5) {
            tellText(acts, random.nextInt(3));
        } else if (kind == 9 && pays.size() < 5) {
            tellText(pays, random.nextInt(3));
        } else if (kind == 10 && !rows.isEmpty()) {
            int[] told = {random.nextInt(rows.size()), 1 + random.nextInt(9), now};
            boolean missed = outcome(told[0], now) == 2;
            Due.due("cause", x.cause(told[0], told[1]), missed);
            if (missed) {
                causes.add(told);
            }
        } else {
            goThrough(random.nextInt(4) == 0 ? random.nextInt(300) : random.nextInt(30));
        }
    }

    private int move(Man man, int minute, int from, int to, int what) {
        int behind = minute + walks[from][to];
        Arrays.fill(man.place, minute, behind, -1 - to);
        Arrays.fill(man.place, behind, LIMIT, to);
        Arrays.fill(man.about, minute, LIMIT, what);
        return behind;
    }

    private void homeward(Man man, int minute, int from) {
        int behind = move(man, minute, from, man.home, 2);
        Arrays.fill(man.about, behind, LIMIT, 0);
        setFree(man, behind);
    }

    private void setFree(Man man, int minute) {
        man.freeAt = minute;
        if (minute == now) {
            man.freed.add(now);
        }
    }

    /** A ROW: constable, due, outcome, the minute it comes to be so, cause. */
    private void begin(Man man, int beat) {
        boolean free = man.about[now] == 0;
        Due.due("begin", x.begin(man.number, beat), free);
        if (!free) {
            return;
        }
        int minute = now;
        int at = man.home;
        Arrays.fill(man.about, now, LIMIT, 1);
        for (int[] step : beats.get(beat)) {
            boolean goes = step[0] == 0 || step[0] == 2;
            if (goes && walks[at][step[1]] != NONE) {
                minute = move(man, minute, at, step[1], 1);
                at = step[1];
                if (step[0] == 2) {
                    boolean met = minute <= now + step[2];
                    rows.add(new int[] {man.number, now + step[2], met ? 1 : 2, minute, met ? NONE : 1});
                    minute = Math.max(minute, now + step[2]);
                }
            } else if (step[0] == 2) {
                rows.add(new int[] {man.number, now + step[2], 2, minute, 2});
            } else if (step[0] == 1) {
                minute += step[2];
            } else if (step[0] == 3) {
                minute++;
                man.looks.add(new int[] {minute, at});
            }
        }
        homeward(man, minute, at);
    }

    private void drop(Man man, int cause) {
        for (int[] row : rows) {
            if (row[0] == man.number && row[3] > now) {
                row[2] = 2;
                row[3] = now;
                row[4] = cause;
            }
        }
        man.looks.removeIf(look -> look[0] > now);
        man.freeAt = NEVER;
    }

    private void draw(Man man, int place, int till) {
        boolean can = man.about[now] < 3 && walks[man.home][place] != NONE;
        Due.due("draw", x.draw(man.number, place, till), can);
        if (!can) {
            return;
        }
        drop(man, 3);
        int minute = now;
        int at = man.place[now];
        if (at < 0) {
            at = -1 - at;
            while (man.place[minute] == -1 - at) {
                man.about[minute] = 3;
                minute++;
            }
        }
        minute = Math.max(move(man, minute, at, place, 3), till);
        homeward(man, minute, place);
    }

    private void makeIll(Man man, boolean is) {
        Due.due("ill", x.ill(man.number, is), true);
        drop(man, 4);
        Arrays.fill(man.place, now, LIMIT, man.home);
        Arrays.fill(man.about, now, LIMIT, is ? 4 : 0);
        if (!is) {
            setFree(man, now);
        }
    }

    private void goThrough(int minutes) {
        if (now + minutes > 6000) {
            return;
        }
        Due.due("tick", x.tick(minutes), now + minutes);
        for (int i = 0; i < minutes; i++) {
            now++;
            for (Man man : men) {
                for (int[] look : man.looks) {
                    if (look[0] == now) {
                        look(man, look[1]);
                    }
                }
                if (man.freeAt == now) {
                    man.freed.add(now);
                }
            }
        }
    }

    /** A SIGHTING: constable, find, minute, done, case, minute known by a walk. A FIND's last two: seen, taken. */
    private void look(Man man, int place) {
        for (int f = 0; f < finds.size(); f++) {
            int[] find = finds.get(f);
            if (find[1] == place && find[2] <= now && now <= find[3] && find[6] == 0) {
                int[] values = {find[0], find[4], place, now % 1440 / 60, now / 1440, rankOf(man, now / 1440, now),
                    present(man, place), find[5], now - find[2]};
                int done = tells(acts, now / 1440, now, values);
                int cases = (int) sightings.stream().filter(s -> s[3] == 3).count();
                int walked = walks[place][0];
                int known = done >= 2 && walked != NONE ? now + walked : NONE;
                sightings.add(new int[] {man.number, f, now, done, done == 3 ? cases : NONE, known});
                letters.add(values);
                find[5]++;
                find[6] = done == 3 ? 1 : 0;
            }
        }
    }

    /** Lower ones have had their turn of the minute, higher ones not yet. */
    private int present(Man man, int place) {
        int many = 1;
        for (Man other : men) {
            if (other != man) {
                many += other.place[other.number < man.number ? now : now - 1] == place ? 1 : 0;
            }
        }
        return many;
    }

    private int rankOf(Man man, int day, int q) {
        int rank = man.rank;
        int from = NONE;
        for (int[] change : ranks) {
            if (change[0] == man.number && change[3] <= q && change[2] <= day && change[2] >= from) {
                rank = change[1];
                from = change[2];
            }
        }
        return rank;
    }

    private static int tells(List<Told> texts, int day, int q, int[] values) {
        Told best = null;
        for (Told told : texts) {
            if (told.minute() <= q && told.day() <= day && (best == null || told.day() >= best.day())) {
                best = told;
            }
        }
        return best == null ? 0 : (int) best.sense().of(values);
    }

    private int outcome(int row, int q) {
        return rows.get(row)[3] <= q ? rows.get(row)[2] : 0;
    }

    private int cause(int row, int q) {
        if (outcome(row, q) != 2) {
            return NONE;
        }
        int cause = rows.get(row)[4];
        for (int[] told : causes) {
            cause = told[0] == row && told[2] <= q ? told[1] : cause;
        }
        return cause;
    }

    private int should(int i, int q) {
        return tells(acts, sightings.get(i)[2] / 1440, q, letters.get(i));
    }

    private int known(int i) {
        int[] sighting = sightings.get(i);
        if (sighting[3] != 1) {
            return sighting[5];
        }
        for (int minute : men.get(sighting[0]).freed) {
            if (minute >= sighting[2]) {
                return minute;
            }
        }
        return NONE;
    }

    private int paid(Man man, int day, int q) {
        int[] values = {rankOf(man, day, q), man.years, 0, 0, 0, 0};
        for (int r = 0; r < rows.size(); r++) {
            if (rows.get(r)[0] == man.number && rows.get(r)[1] / 1440 == day) {
                int cause = cause(r, q);
                values[2] += outcome(r, q) == 1 ? 1 : 0;
                values[3] += cause == 1 || cause >= 5 ? 1 : 0;
            }
        }
        for (int i = 0; i < sightings.size(); i++) {
            int[] sighting = sightings.get(i);
            if (sighting[0] == man.number && sighting[2] / 1440 == day && sighting[3] == 3) {
                values[should(i, q) == 3 ? 4 : 5]++;
            }
        }
        return tells(pays, day, q, values);
    }

    private void compare() {
        Due.due("rows", x.count(4), rows.size());
        Due.due("sightings", x.count(8), sightings.size());
        for (int k = 0; k < 20 && !rows.isEmpty(); k++) {
            int r = random.nextInt(rows.size());
            int q = now - random.nextInt(1 + now / 2);
            if (x.point(r, q, 0) != NONE) {
                Due.due("outcome", x.point(r, q, 3), outcome(r, q));
                Due.due("cause", x.point(r, q, 4), cause(r, q));
            }
        }
        for (int k = 0; k < 20 && !sightings.isEmpty(); k++) {
            int i = random.nextInt(sightings.size());
            for (int what = 0; what < 5; what++) {
                Due.due("sighting " + what, x.sighting(i, what), sightings.get(i)[what]);
            }
            Due.due("known", x.sighting(i, 5), known(i));
            int minute = sightings.get(i)[2];
            int q = minute + random.nextInt(now - minute + 1);
            Due.due("should", x.should(i, q), should(i, q));
        }
        for (int k = 0; k < 5; k++) {
            int q = random.nextInt(now + 1);
            int heard = 0;
            for (int i = 0; i < sightings.size(); i++) {
                heard += known(i) != NONE && known(i) <= q ? 1 : 0;
            }
            Due.due("heard", x.heard(q), heard);
        }
        comparePay();
    }

    private void comparePay() {
        int lines = 0;
        int coins = 0;
        for (Man man : men) {
            for (int day = 0; day < now / 1440; day++) {
                int q = (day + 1) * 1440 + random.nextInt(now - (day + 1) * 1440 + 1);
                Due.due("paid", x.paid(man.number, day, q), paid(man, day, q));
                lines += paid(man, day, now) == 0 ? 0 : 1;
                coins += paid(man, day, now);
            }
        }
        Due.due("book", x.book(), lines);
        Due.due("coins", x.count(17), coins);
    }
}
