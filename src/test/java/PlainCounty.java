import java.util.ArrayList;
import java.util.HashMap;
import java.util.List;
import java.util.Map;
import java.util.NoSuchElementException;

/**
 * The whole document told a second time, plainly and slowly: what is told is kept as it was told, every answer is found anew from
 * it, and the best of something by trying all. The names are those of the face.
 */
final class PlainCounty {
    static final int NONE = -1;
    static final int HIDDEN = -1000000;
    private static final PlainGrammar[] GRAMMARS = {PlainGrammar.ofBeats(), PlainGrammar.ofActs(), PlainGrammar.ofPay()};

    private record Path(int one, int other, int minutes) {
    }

    private record Text(int day, int told, String text) {
    }

    private record Find(int kind, int place, int from, int to, int weight) {
    }

    private record Sighting(int man, int find, int minute, int done, int ofCase, int walked, Map<Character, Integer> letters) {
    }

    private record Cause(int row, int cause, int told) {
    }

    private record Case(int kind, int opened) {
    }

    private record Statement(int of, int fact, int witness, boolean yes, int told) {
    }

    private record Story(int of, int so, int not, int told) {
    }

    private record Watch(int place, int from, int to) {
    }

    private record Fair(int place, int minute, int wanted) {
    }

    private record Change(int man, int rank, int day, int told) {
    }

    private record Line(int man, int day, int coins, int minute) {
    }

    int now;
    private final List<Path> paths = new ArrayList<>();
    private final List<PlainMan> men = new ArrayList<>();
    private final List<List<String[]>> beats = new ArrayList<>();
    private final List<PlainRow> rows = new ArrayList<>();
    private final List<Cause> causes = new ArrayList<>();
    /** Where each one was as each MINUTE that is over was so. */
    private final List<int[]> places = new ArrayList<>();
    private final List<Find> finds = new ArrayList<>();
    private final List<Text> acts = new ArrayList<>();
    private final List<Text> pays = new ArrayList<>();
    private final List<Sighting> sightings = new ArrayList<>();
    private final List<Case> cases = new ArrayList<>();
    private final Map<Integer, Integer> needs = new HashMap<>();
    private final Map<Integer, Integer> wants = new HashMap<>();
    private final List<Statement> statements = new ArrayList<>();
    private final Map<Integer, Integer> withdrawn = new HashMap<>();
    private final List<Story> stories = new ArrayList<>();
    private final List<Integer> lost = new ArrayList<>();
    private final List<Integer> found = new ArrayList<>();
    private int least = 3;
    private final List<Watch> watches = new ArrayList<>();
    private final List<Fair> fairs = new ArrayList<>();
    private final List<Change> changes = new ArrayList<>();
    private final List<Line> lines = new ArrayList<>();
    private final Map<Integer, Integer> marks = new HashMap<>();
    private int size = 3;
    private String tape = "";

    private static boolean in(int value, int from, int to) {
        return from <= value && value <= to;
    }

    private static boolean in(int value, List<?> list) {
        return in(value, 0, list.size() - 1);
    }

    private boolean known(int q) {
        return in(q, 0, now);
    }

    private static <T> int add(List<T> list, T one) {
        list.add(one);
        return list.size() - 1;
    }

    // ---- 1

    int path(int one, int other, int minutes) {
        if (!in(one, 0, 15) || !in(other, 0, 15) || one == other || !in(minutes, 1, 60) || paths.size() == 40) {
            return NONE;
        }
        return add(paths, new Path(one, other, minutes));
    }

    int walk(int from, int to) {
        if (!in(from, 0, 15) || !in(to, 0, 15)) {
            return NONE;
        }
        Map<Integer, Integer> reached = new HashMap<>(Map.of(from, 0));
        boolean shorter = true;
        while (shorter) {
            shorter = false;
            for (Path path : paths) {
                shorter |= shortens(reached, path.one(), path.other(), path.minutes());
                shorter |= shortens(reached, path.other(), path.one(), path.minutes());
            }
        }
        return reached.getOrDefault(to, NONE);
    }

    private static boolean shortens(Map<Integer, Integer> reached, int from, int to, int minutes) {
        Integer there = reached.get(from);
        if (there == null || reached.containsKey(to) && reached.get(to) <= there + minutes) {
            return false;
        }
        reached.put(to, there + minutes);
        return true;
    }

    int constable(int rank, int years, int home) {
        if (!in(rank, 1, 4) || !in(years, 0, 40) || !in(home, 0, 15) || men.size() == 12) {
            return NONE;
        }
        return add(men, new PlainMan(this, men.size(), rank, years, home));
    }

    int feed(int a, int b, int c, int d, int e) {
        StringBuilder more = new StringBuilder();
        for (int four : new int[] {a, b, c, d, e}) {
            for (int i = 3; i >= 0; i--) {
                char sign = (char) (four >>> 8 * i & 255);
                more.append(sign == 0 ? "" : String.valueOf(sign));
            }
        }
        if (tape.length() + more.length() > 160) {
            return NONE;
        }
        tape += more;
        return tape.length();
    }

    boolean end(int n) {
        if (!in(n, 0, tape.length())) {
            return false;
        }
        tape = tape.substring(0, n);
        return true;
    }

    int fault(int sort) {
        return in(sort, 0, 2) ? GRAMMARS[sort].fault(tape) : -2;
    }

    int beat() {
        if (fault(0) != NONE || beats.size() == 12) {
            return NONE;
        }
        List<String[]> steps = PlainSense.steps(tape);
        if (steps == null) {
            return NONE;
        }
        tape = "";
        return add(beats, steps);
    }

    int beaten(int beat, int what) {
        if (!in(beat, beats) || !in(what, 0, 1)) {
            return NONE;
        }
        return what == 0 ? beats.get(beat).size() : (int) beats.get(beat).stream().filter(s -> s[0].equals("p")).count();
    }

    boolean begin(int constable, int beat) {
        if (!in(constable, men) || !in(beat, beats) || men.get(constable).about != PlainMan.FREE) {
            return false;
        }
        if (rows.size() + beaten(beat, 1) > 400) {
            return false;
        }
        List<PlainRow> its = new ArrayList<>();
        for (String[] step : beats.get(beat)) {
            if (step[0].equals("p")) {
                its.add(new PlainRow(constable, Integer.parseInt(step[1]), now + Integer.parseInt(step[2]), now));
            }
        }
        rows.addAll(its);
        men.get(constable).begin(beats.get(beat), its);
        return true;
    }

    boolean draw(int constable, int place, int till) {
        if (!in(constable, men) || !in(place, 0, 15) || !in(till, now, 30000)) {
            return false;
        }
        PlainMan man = men.get(constable);
        if (walk(man.home, place) == NONE || man.about == PlainMan.DRAWN || man.about == PlainMan.ILL) {
            return false;
        }
        man.draw(place, till);
        return true;
    }

    boolean ill(int constable, boolean is) {
        if (!in(constable, men) || (men.get(constable).about == PlainMan.ILL) == is) {
            return false;
        }
        if (is) {
            men.get(constable).fallIll();
        } else {
            men.get(constable).becomeFree();
        }
        return true;
    }

    int tick(int n) {
        if (!in(n, 0, 1500) || now + n > 20000) {
            return NONE;
        }
        for (int i = 0; i < n; i++) {
            places.add(men.stream().mapToInt(m -> m.onItsWay ? -2 : m.place).toArray());
            now++;
            men.forEach(PlainMan::minute);
        }
        return now;
    }

    int about(int constable, int what) {
        if (!in(constable, men) || !in(what, 0, 8)) {
            throw new NoSuchElementException();
        }
        PlainMan man = men.get(constable);
        int step = man.about == PlainMan.BEAT && man.task != null ? man.task.step() : NONE;
        int till = man.task != null ? now + man.left : NONE;
        int[] all = {man.about, man.onItsWay ? NONE : man.place, man.onItsWay ? man.place : NONE, till, step, man.met, man.missed,
            man.years, man.home};
        return all[what];
    }

    /** A PLACE, -2 for on its way, -3 for not told by then. */
    private int whereabouts(int constable, int minute) {
        if (minute == now) {
            return men.get(constable).onItsWay ? -2 : men.get(constable).place;
        }
        int[] all = places.get(minute);
        return constable < all.length ? all[constable] : -3;
    }

    int was(int constable, int minute) {
        return in(constable, men) && known(minute) ? Math.max(NONE, whereabouts(constable, minute)) : NONE;
    }

    private int outcome(int i, int q) {
        return rows.get(i).outcome != 0 && rows.get(i).settled <= q ? rows.get(i).outcome : 0;
    }

    private int causeOf(int i, int q) {
        if (outcome(i, q) != 2) {
            return NONE;
        }
        int last = rows.get(i).cause;
        for (Cause told : causes) {
            last = told.row() == i && told.told() <= q ? told.cause() : last;
        }
        return last;
    }

    int point(int i, int q, int what) {
        if (!in(i, rows) || !known(q) || !in(what, 0, 4) || rows.get(i).begun > q) {
            return NONE;
        }
        PlainRow row = rows.get(i);
        return new int[] {row.man, row.place, row.due, outcome(i, q), causeOf(i, q)}[what];
    }

    boolean cause(int i, int cause) {
        if (!in(i, rows) || outcome(i, now) != 2 || !in(cause, 1, 9) || causes.size() == 200) {
            return false;
        }
        return causes.add(new Cause(i, cause, now));
    }

    int causes(int cause, int q) {
        if (!in(cause, 1, 9) || !known(q)) {
            return NONE;
        }
        int many = 0;
        for (int i = 0; i < rows.size(); i++) {
            many += causeOf(i, q) == cause ? 1 : 0;
        }
        return many;
    }

    // ---- 2

    int find(int kind, int place, int from, int to, int weight) {
        boolean sound = in(kind, 0, 9) && in(place, 0, 15) && in(from, 0, 20000) && in(to, 0, 20000) && in(weight, 1, 9);
        return sound && from <= to && finds.size() < 80 ? add(finds, new Find(kind, place, from, to, weight)) : NONE;
    }

    private int tell(List<Text> texts, int sort, int day) {
        if (fault(sort) != NONE || !in(day, 0, 30) || texts.size() == 20) {
            return NONE;
        }
        String text = tape;
        tape = "";
        return add(texts, new Text(day, now, text));
    }

    private static int inForce(List<Text> texts, int day, int q) {
        for (int from = day; from >= 0; from--) {
            for (int i = texts.size() - 1; i >= 0; i--) {
                if (texts.get(i).day() == from && texts.get(i).told() <= q) {
                    return i;
                }
            }
        }
        return NONE;
    }

    int act(int day) {
        return tell(acts, 1, day);
    }

    int force(int day, int q) {
        return in(day, 0, 30) && known(q) ? inForce(acts, day, q) : NONE;
    }

    void look(PlainMan man) {
        for (int f = 0; f < finds.size(); f++) {
            Find find = finds.get(f);
            int number = f;
            boolean taken = sightings.stream().anyMatch(s -> s.find() == number && s.done() == 3);
            if (find.place() == man.place && in(now, find.from(), find.to()) && !taken && sightings.size() < 300) {
                see(man, f, find);
            }
        }
    }

    private void see(PlainMan man, int f, Find find) {
        Map<Character, Integer> letters = new HashMap<>();
        letters.put('k', find.kind());
        letters.put('w', find.weight());
        letters.put('p', find.place());
        letters.put('h', now % 1440 / 60);
        letters.put('d', now / 1440);
        letters.put('c', classOf(man.number, now / 1440, now));
        letters.put('n', (int) men.stream().filter(m -> !m.onItsWay && m.place == find.place()).count());
        letters.put('e', (int) sightings.stream().filter(s -> s.find() == f).count());
        letters.put('t', now - find.from());
        int done = lets(letters, now / 1440, now);
        int opened = done == 3 && cases.size() < 30 ? add(cases, new Case(find.kind(), now)) : NONE;
        sightings.add(new Sighting(man.number, f, now, done, opened, walk(find.place(), 0), letters));
    }

    private int lets(Map<Character, Integer> letters, int day, int q) {
        int act = inForce(acts, day, q);
        return act == NONE ? 0 : new PlainSense(letters).act(acts.get(act).text());
    }

    private int knownAt(Sighting s) {
        if (s.done() == 0) {
            return NONE;
        }
        if (s.done() == 1) {
            return men.get(s.man()).freed.stream().filter(m -> m >= s.minute()).findFirst().orElse(NONE);
        }
        return s.walked() == NONE ? NONE : s.minute() + s.walked();
    }

    int sighting(int i, int what) {
        if (!in(i, sightings) || !in(what, 0, 5)) {
            return NONE;
        }
        Sighting s = sightings.get(i);
        return new int[] {s.man(), s.find(), s.minute(), s.done(), s.ofCase(), knownAt(s)}[what];
    }

    int should(int i, int q) {
        if (!in(i, sightings) || !in(q, sightings.get(i).minute(), now)) {
            return NONE;
        }
        return lets(sightings.get(i).letters(), sightings.get(i).minute() / 1440, q);
    }

    int heard(int q) {
        return known(q) ? (int) sightings.stream().filter(s -> in(knownAt(s), 0, q)).count() : NONE;
    }

    // ---- 3

    int open(int kind) {
        return in(kind, 0, 9) && cases.size() < 30 ? add(cases, new Case(kind, now)) : NONE;
    }

    boolean need(int kind, int facts) {
        boolean sound = in(kind, 0, 9) && in(facts, 0, 255);
        if (sound) {
            needs.put(kind, facts);
        }
        return sound;
    }

    boolean want(int fact, int many) {
        boolean sound = in(fact, 0, 7) && in(many, 1, 3);
        if (sound) {
            wants.put(fact, many);
        }
        return sound;
    }

    int state(int of, int fact, int witness, boolean yes) {
        if (!in(of, cases) || !in(fact, 0, 7) || !in(witness, 0, 15) || withdrawn.containsKey(witness)) {
            return NONE;
        }
        return statements.size() < 200 ? add(statements, new Statement(of, fact, witness, yes, now)) : NONE;
    }

    /** What each CASE is, and what it LACKS. */
    private List<String> allCases() {
        List<String> all = new ArrayList<>();
        for (int of = 0; of < cases.size(); of++) {
            all.add(cased(of, now, 0) + " " + cased(of, now, 1));
        }
        return all;
    }

    int withdraw(int witness) {
        if (!in(witness, 0, 15) || withdrawn.containsKey(witness)) {
            return NONE;
        }
        List<String> before = allCases();
        withdrawn.put(witness, now);
        List<String> behind = allCases();
        int others = 0;
        for (int of = 0; of < cases.size(); of++) {
            others += before.get(of).equals(behind.get(of)) ? 0 : 1;
        }
        return others;
    }

    int fact(int of, int fact, int q) {
        if (!in(of, cases) || !in(fact, 0, 7) || !known(q) || cases.get(of).opened() > q) {
            return NONE;
        }
        Map<Integer, Boolean> said = new HashMap<>();
        for (Statement s : statements) {
            boolean counts = s.told() <= q && withdrawn.getOrDefault(s.witness(), q + 1) > q;
            if (s.of() == of && s.fact() == fact && counts) {
                said.put(s.witness(), s.yes());
            }
        }
        int yes = (int) said.values().stream().filter(y -> y).count();
        int no = said.size() - yes;
        int want = wants.getOrDefault(fact, 1);
        return yes > 0 && no > 0 ? 3 : yes >= want ? 1 : no >= want ? 2 : 0;
    }

    /** The FACTS of a CASE that are this, as bits. */
    private int factsThatAre(int what, int of, int q) {
        int bits = 0;
        for (int fact = 0; fact < 8; fact++) {
            bits |= fact(of, fact, q) == what ? 1 << fact : 0;
        }
        return bits;
    }

    private List<Story> standing(int of, int q) {
        int proved = factsThatAre(1, of, q);
        int refuted = factsThatAre(2, of, q);
        return stories.stream().filter(s -> s.of() == of && s.told() <= q)
            .filter(s -> (s.so() & refuted) == 0 && (s.not() & proved) == 0).toList();
    }

    int cased(int of, int q, int what) {
        if (!in(of, cases) || !known(q) || cases.get(of).opened() > q || !in(what, 0, 4)) {
            return NONE;
        }
        int needed = needs.getOrDefault(cases.get(of).kind(), 0);
        int lacks = needed & ~factsThatAre(1, of, q);
        boolean fallen = (needed & factsThatAre(2, of, q)) != 0;
        int is = fallen ? 2 : lacks == 0 ? 1 : 0;
        return new int[] {is, lacks, cases.get(of).kind(), cases.get(of).opened(), standing(of, q).size()}[what];
    }

    int story(int of, int so, int not) {
        if (!in(of, cases) || !in(so, 0, 255) || !in(not, 0, 255) || (so & not) != 0) {
            return NONE;
        }
        int many = (int) stories.stream().filter(s -> s.of() == of).count();
        if (many == 6) {
            return NONE;
        }
        stories.add(new Story(of, so, not, now));
        return many;
    }

    int next(int of) {
        if (!in(of, cases)) {
            return NONE;
        }
        int best = NONE;
        int bestWorth = 0;
        for (int fact = 7; fact >= 0; fact--) {
            int bit = 1 << fact;
            int so = (int) standing(of, now).stream().filter(s -> (s.so() & bit) != 0).count();
            int not = (int) standing(of, now).stream().filter(s -> (s.not() & bit) != 0).count();
            int is = fact(of, fact, now);
            int worth = Math.min(so, not) * 100 + so + not;
            if ((is == 0 || is == 3) && Math.min(so, not) > 0 && worth >= bestWorth) {
                best = fact;
                bestWorth = worth;
            }
        }
        return best;
    }

    // ---- 4

    int good(boolean isLost, int marks) {
        List<Integer> goods = isLost ? lost : found;
        return in(marks, 0, 99999) && goods.size() < 8 ? add(goods, marks) : NONE;
    }

    boolean least(int marks) {
        least = in(marks, 1, 5) ? marks : least;
        return in(marks, 1, 5);
    }

    private int like(int i, int f) {
        String one = String.format("%05d", lost.get(i));
        String other = String.format("%05d", found.get(f));
        return (int) java.util.stream.IntStream.range(0, 5).filter(k -> one.charAt(k) == other.charAt(k)).count();
    }

    /** All BEST JOININGS, the FIRST one first: for each LOST good the FOUND one, or NONE. */
    private List<int[]> bestJoinings() {
        List<int[]> best = new ArrayList<>();
        joinOn(new int[lost.size()], 0, 0, 0, best, new int[] {-1});
        return best;
    }

    private void joinOn(int[] to, int i, int used, int sum, List<int[]> best, int[] most) {
        if (i == to.length) {
            if (sum > most[0]) {
                most[0] = sum;
                best.clear();
            }
            if (sum == most[0]) {
                best.add(to.clone());
            }
            return;
        }
        for (int f = 0; f < found.size(); f++) {
            if ((used >> f & 1) == 0 && like(i, f) >= least) {
                to[i] = f;
                joinOn(to, i + 1, used | 1 << f, sum + like(i, f), best, most);
            }
        }
        to[i] = NONE;
        joinOn(to, i + 1, used, sum, best, most);
    }

    int joining() {
        int[] first = bestJoinings().get(0);
        int sum = 0;
        for (int i = 0; i < first.length; i++) {
            sum += first[i] == NONE ? 0 : like(i, first[i]);
        }
        return sum;
    }

    int joined(int i) {
        return in(i, lost) ? bestJoinings().get(0)[i] : NONE;
    }

    int rivals(int i) {
        if (!in(i, lost)) {
            return NONE;
        }
        return bestJoinings().stream().mapToInt(to -> to[i] == NONE ? 0 : 1 << to[i]).reduce(0, (a, b) -> a | b);
    }

    int sure(int i) {
        return !in(i, lost) ? NONE : bestJoinings().stream().mapToInt(to -> to[i]).distinct().count() == 1 ? 1 : 0;
    }

    // ---- 5

    int watch(int place, int from, int to) {
        boolean sound = in(place, 0, 15) && in(from, 0, 1440) && in(to, 0, 1440) && from <= to;
        return sound && watches.size() < 8 ? add(watches, new Watch(place, from, to)) : NONE;
    }

    int sees(int beat, int watch) {
        if (!in(beat, beats) || !in(watch, watches)) {
            return NONE;
        }
        Watch seen = watches.get(watch);
        int minute = 0;
        int place = 0;
        for (String[] step : beats.get(beat)) {
            if (step[0].equals("w")) {
                minute += Integer.parseInt(step[1]);
            } else if (step[0].equals("l")) {
                minute++;
                if (place == seen.place() && in(minute, seen.from(), seen.to())) {
                    return 1;
                }
            } else if (walk(place, Integer.parseInt(step[1])) != NONE) {
                minute += walk(place, Integer.parseInt(step[1]));
                place = Integer.parseInt(step[1]);
                minute = step[0].equals("p") ? Math.max(minute, Integer.parseInt(step[2])) : minute;
            }
        }
        return 0;
    }

    /** SAFE, and the SHARES of all BEATS, of BEST; null if these can't share. */
    private int[] bestShares(int some) {
        if (some <= 0 || some >= 1 << beats.size() || Integer.bitCount(some) > 5) {
            return null;
        }
        boolean[][] sight = new boolean[beats.size()][watches.size()];
        for (int b = 0; b < beats.size(); b++) {
            for (int w = 0; w < watches.size(); w++) {
                sight[b][w] = (some >> b & 1) == 1 && sees(b, w) == 1;
            }
        }
        int[] best = new int[beats.size() + 2];
        best[0] = -1;
        shareOn(new int[beats.size()], some, 0, 12, sight, best);
        return best;
    }

    /** Fewer to the lower BEAT come first: what is as good takes their place. */
    private void shareOn(int[] shares, int some, int b, int left, boolean[][] sight, int[] best) {
        if (b == shares.length) {
            if (left == 0) {
                weigh(shares, sight, best);
            }
            return;
        }
        boolean last = some >> (b + 1) == 0;
        int most = (some >> b & 1) == 1 ? left : 0;
        for (int mine = last ? most : 0; mine <= most; mine++) {
            shares[b] = mine;
            shareOn(shares, some, b + 1, left - mine, sight, best);
        }
    }

    private void weigh(int[] shares, boolean[][] sight, int[] best) {
        int safe = 12;
        int sum = 0;
        for (int w = 0; w < watches.size(); w++) {
            int its = 0;
            for (int b = 0; b < shares.length; b++) {
                its += sight[b][w] ? shares[b] : 0;
            }
            safe = Math.min(safe, its);
            sum += its;
        }
        if (safe > best[0] || safe == best[0] && sum >= best[1]) {
            best[0] = safe;
            best[1] = sum;
            System.arraycopy(shares, 0, best, 2, shares.length);
        }
    }

    int safe(int some) {
        int[] best = bestShares(some);
        return best == null ? NONE : best[0];
    }

    int share(int some, int beat) {
        int[] best = bestShares(some);
        return best == null || !in(beat, beats) || (some >> beat & 1) == 0 ? NONE : best[2 + beat];
    }

    int fair(int place, int minute, int wanted) {
        boolean sound = in(place, 0, 15) && in(minute, 0, 30000) && in(wanted, 1, 3);
        return sound && fairs.size() < 4 ? add(fairs, new Fair(place, minute, wanted)) : NONE;
    }

    private int openPoints(PlainMan man) {
        if (man.about != PlainMan.BEAT) {
            return 0;
        }
        int open = 0;
        for (PlainRow row : rows) {
            open += row.man == man.number && row.outcome == 0 ? 1 : 0;
        }
        return open;
    }

    private int minutesTo(PlainMan man, Fair fair) {
        if (man.about != PlainMan.FREE && man.about != PlainMan.BEAT) {
            return NONE;
        }
        int there = man.onItsWay ? now + man.left : now;
        int walked = walk(man.place, fair.place());
        return walked == NONE || there + walked > fair.minute() ? NONE : walked;
    }

    /** Lost, walked, and the FAIR of each CONSTABLE (NONE), of BEST; null if there is none. */
    private int[] bestLending() {
        int[][] walked = new int[men.size()][fairs.size()];
        for (int m = 0; m < men.size(); m++) {
            for (int f = 0; f < fairs.size(); f++) {
                walked[m][f] = minutesTo(men.get(m), fairs.get(f));
            }
        }
        int[] best = new int[men.size() + 2];
        best[0] = Integer.MAX_VALUE;
        lendOn(new int[men.size()], 0, fairs.stream().mapToInt(Fair::wanted).toArray(), walked, best);
        return best[0] == Integer.MAX_VALUE ? null : best;
    }

    private void lendOn(int[] to, int m, int[] wanted, int[][] walked, int[] best) {
        if (m == to.length) {
            if (java.util.Arrays.stream(wanted).allMatch(w -> w == 0)) {
                weighLending(to, walked, best);
            }
            return;
        }
        for (int f = 0; f < wanted.length; f++) {
            if (wanted[f] > 0 && walked[m][f] != NONE) {
                wanted[f]--;
                to[m] = f;
                lendOn(to, m + 1, wanted, walked, best);
                wanted[f]++;
            }
        }
        to[m] = NONE;
        lendOn(to, m + 1, wanted, walked, best);
    }

    private void weighLending(int[] to, int[][] walked, int[] best) {
        int points = 0;
        int minutes = 0;
        for (int m = 0; m < to.length; m++) {
            points += to[m] == NONE ? 0 : openPoints(men.get(m));
            minutes += to[m] == NONE ? 0 : walked[m][to[m]];
        }
        if (points < best[0] || points == best[0] && minutes < best[1]) {
            best[0] = points;
            best[1] = minutes;
            System.arraycopy(to, 0, best, 2, to.length);
        }
    }

    int lending(int what) {
        int[] best = bestLending();
        return best == null || !in(what, 0, 1) ? NONE : best[what];
    }

    int lent(int constable) {
        int[] best = bestLending();
        return best == null || !in(constable, men) ? NONE : best[2 + constable];
    }

    void fairs() {
        fairs.clear();
    }

    // ---- 6

    int pay(int day) {
        return tell(pays, 2, day);
    }

    boolean rank(int constable, int rank, int day) {
        if (!in(constable, men) || !in(rank, 1, 4) || !in(day, 0, 30) || changes.size() == 40) {
            return false;
        }
        return changes.add(new Change(constable, rank, day, now));
    }

    private int classOf(int constable, int day, int q) {
        for (int from = day; from >= 0; from--) {
            for (int i = changes.size() - 1; i >= 0; i--) {
                Change change = changes.get(i);
                if (change.man() == constable && change.day() == from && change.told() <= q) {
                    return change.rank();
                }
            }
        }
        return men.get(constable).rank;
    }

    int ranked(int constable, int day, int q) {
        return in(constable, men) && in(day, 0, 30) && known(q) ? classOf(constable, day, q) : NONE;
    }

    int paid(int constable, int day, int q) {
        if (!in(constable, men) || !known(q) || !in(day, 0, 30) || (day + 1) * 1440 > q) {
            return NONE;
        }
        int text = inForce(pays, day, q);
        return text == NONE ? 0 : new PlainSense(payLetters(constable, day, q)).pay(pays.get(text).text());
    }

    private Map<Character, Integer> payLetters(int constable, int day, int q) {
        int[] counts = new int[4];
        for (int i = 0; i < rows.size(); i++) {
            if (rows.get(i).man == constable && in(rows.get(i).due, day * 1440, day * 1440 + 1439)) {
                counts[0] += outcome(i, q) == 1 ? 1 : 0;
                counts[1] += List.of(1, 5, 6, 7, 8, 9).contains(causeOf(i, q)) ? 1 : 0;
            }
        }
        for (int i = 0; i < sightings.size(); i++) {
            Sighting s = sightings.get(i);
            if (s.man() == constable && s.minute() / 1440 == day && s.done() == 3) {
                counts[should(i, q) == 3 ? 2 : 3]++;
            }
        }
        return Map.of('c', classOf(constable, day, q), 'y', men.get(constable).years, 'm', counts[0], 'x', counts[1], 't', counts[2],
            'a', counts[3]);
    }

    int book() {
        List<Line> more = new ArrayList<>();
        for (int day = 0; day < now / 1440; day++) {
            for (int m = 0; m < men.size(); m++) {
                int number = m;
                int of = day;
                int booked = lines.stream().filter(l -> l.man() == number && l.day() == of).mapToInt(Line::coins).sum();
                if (paid(m, day, now) != booked) {
                    more.add(new Line(m, day, paid(m, day, now) - booked, now));
                }
            }
        }
        if (lines.size() + more.size() > 600) {
            return NONE;
        }
        lines.addAll(more);
        return more.size();
    }

    int line(int i, int what) {
        if (!in(i, lines) || !in(what, 0, 3)) {
            return HIDDEN;
        }
        Line line = lines.get(i);
        return new int[] {line.man(), line.day(), line.coins(), line.minute()}[what];
    }

    boolean mark(int inspector, int constable, int given) {
        boolean sound = in(inspector, 0, 3) && in(constable, men) && in(given, 0, 10);
        if (sound) {
            marks.put(inspector * 100 + constable, given);
        }
        return sound;
    }

    boolean size(int n) {
        size = in(n, 1, 12) ? n : size;
        return in(n, 1, 12);
    }

    int habit(int one, int other) {
        if (!in(one, 0, 3) || !in(other, 0, 3) || one == other) {
            return HIDDEN;
        }
        int both = 0;
        int sum = 0;
        for (int m = 0; m < 12; m++) {
            Integer mine = marks.get(one * 100 + m);
            Integer its = marks.get(other * 100 + m);
            both += mine != null && its != null ? 1 : 0;
            sum += mine != null && its != null ? mine - its : 0;
        }
        return both >= size ? sum : HIDDEN;
    }

    int complain(int constable, int place, int from, int to) {
        if (!in(constable, men) || !in(place, 0, 15) || !known(from) || !known(to) || from > to || to - from >= 1440) {
            return NONE;
        }
        boolean there = false;
        boolean onItsWay = false;
        for (int minute = from; minute <= to; minute++) {
            there |= whereabouts(constable, minute) == place;
            onItsWay |= whereabouts(constable, minute) == -2;
        }
        return there ? 1 : onItsWay ? 2 : 0;
    }

    int count(int what) {
        int taken = (int) sightings.stream().filter(s -> s.done() == 3).count();
        int coins = lines.stream().mapToInt(Line::coins).sum();
        int[] all = {now, paths.size(), men.size(), beats.size(), rows.size(), finds.size(), taken, acts.size(), sightings.size(),
            cases.size(), statements.size(), lost.size(), found.size(), watches.size(), fairs.size(), pays.size(), lines.size(), coins,
            tape.length()};
        return in(what, 0, 18) ? all[what] : NONE;
    }
}
