import java.util.Arrays;
import java.util.NoSuchElementException;

/** A county's watch, as ../shared/DOC.md tells it: words in capitals there are explained in its "Terms". */
public final class CountyWatch {
    public static final int NONE = -1;
    public static final int HIDDEN = -1000000;

    private static final int LAST_MINUTE = 20000;
    private static final int LAST_TOLD_MINUTE = 30000;
    private static final int DAY_LENGTH = 1440;
    private static final int LAST_DAY = 30;
    private static final int LONGEST_TICK = 1500;
    private static final int PLACES = 16;
    private static final int MOST_MEN = 12;

    /** What a CONSTABLE is about. */
    private static final int FREE = 0;
    private static final int ON_BEAT = 1;
    private static final int HOMEWARD = 2;
    private static final int DRAWN = 3;
    private static final int ILL = 4;

    /** Kinds of STEPS. */
    private static final int GO = 0;
    private static final int WAIT = 1;
    private static final int MEET = 2;
    private static final int LOOK = 3;

    /** What a POINT is. */
    private static final int MET = 1;
    private static final int MISSED = 2;
    private static final int LATE = 1;
    private static final int NO_WALK = 2;
    private static final int DRAWN_OFF = 3;
    private static final int FELL_ILL = 4;

    /** What is done at a SIGHTING. */
    private static final int NOTED = 1;
    private static final int TAKEN = 3;

    /** The letters of texts, in the order in which their values are held. */
    private static final String ACT_LETTERS = "kwphdcnet";
    private static final String PAY_LETTERS = "cymxta";
    private static final String VERDICTS = "xnrt";

    /** A whole minute of places in one long: five bits a CONSTABLE. */
    private static final int PLACE_BITS = 5;
    private static final int PLACE_MASK = 31;
    private static final int NOT_TOLD = 0;
    private static final int ON_ITS_WAY = 17;

    private int now;
    private final Roads roads;
    private final Reader reader;
    private final Beats beats;
    private final Rules acts;
    private final Rules pays;
    private final Constable[] men;
    private int manCount;
    private final Points points;
    private final Looks looks;
    private final Cases cases;
    private final Goods goods;
    private final Plans plans;
    private final Payroll payroll;
    /** Where all are now, packed; and where they were as each minute ahead of NOW was over. */
    private long here;
    private long[] history;

    public CountyWatch() {
        roads = new Roads();
        reader = new Reader();
        beats = new Beats();
        acts = new Rules();
        pays = new Rules();
        men = new Constable[MOST_MEN];
        points = new Points();
        looks = new Looks();
        cases = new Cases();
        goods = new Goods();
        plans = new Plans();
        payroll = new Payroll();
        history = new long[0];
    }

    private static boolean within(int value, int least, int most) {
        return value >= least && value <= most;
    }

    private static boolean isPlace(int place) {
        return place >= 0 && place < PLACES;
    }

    private boolean isKnown(int q) {
        return within(q, 0, now);
    }

    private boolean isMan(int number) {
        return manOf(number) != null;
    }

    private Constable manOf(int number) {
        return within(number, 0, manCount - 1) ? men[number] : null;
    }

    // ---- 1: paths, constables, beats and points

    public int path(int one, int other, int minutes) {
        if (!isPlace(one) || !isPlace(other) || one == other || !within(minutes, 1, 60)) {
            return NONE;
        }
        return roads.lay(one, other, minutes);
    }

    public int walk(int from, int to) {
        return isPlace(from) && isPlace(to) ? roads.minutes(from, to) : NONE;
    }

    public int constable(int rank, int years, int home) {
        boolean sound = within(rank, 1, 4) && within(years, 0, 40) && isPlace(home);
        if (!sound || manCount >= MOST_MEN) {
            return NONE;
        }
        Constable man = new Constable(manCount, rank, years, home);
        men[manCount] = man;
        manCount++;
        putAt(man, home);
        return man.number;
    }

    public int feed(int a, int b, int c, int d, int e) {
        return reader.takeIn(a, b, c, d, e);
    }

    public boolean end(int n) {
        return reader.cut(n);
    }

    public int fault(int sort) {
        switch (sort) {
            case 0:
                return reader.readBeat();
            case 1:
                return reader.readRule(true);
            case 2:
                return reader.readRule(false);
            default:
                return -2;
        }
    }

    public int beat() {
        if (reader.readBeat() != NONE) {
            return NONE;
        }
        int number = beats.keep(reader);
        if (number != NONE) {
            reader.cut(0);
        }
        return number;
    }

    public int beaten(int beat, int what) {
        if (!beats.has(beat)) {
            return NONE;
        }
        switch (what) {
            case 0:
                return beats.stepsOf(beat);
            case 1:
                return beats.pointsOf(beat);
            default:
                return NONE;
        }
    }

    public boolean begin(int constable, int beat) {
        Constable man = manOf(constable);
        if (man == null || !beats.has(beat) || man.about != FREE || !points.hasRoom(beats.pointsOf(beat))) {
            return false;
        }
        man.about = ON_BEAT;
        man.beat = beat;
        man.step = 0;
        man.begun = now;
        man.row = points.rows;
        writeRows(man);
        man.rowsEnd = points.rows;
        doSteps(man);
        return true;
    }

    private void writeRows(Constable man) {
        int length = beats.stepsOf(man.beat);
        for (int i = 0; i < length; i++) {
            int step = beats.stepAt(man.beat, i);
            if (Beats.kindOf(step) == MEET) {
                points.write(man.number, Beats.placeOf(step), now + Beats.amountOf(step), now);
            }
        }
    }

    public boolean draw(int constable, int place, int till) {
        Constable man = manOf(constable);
        if (man == null || !isPlace(place) || !within(till, now, LAST_TOLD_MINUTE)) {
            return false;
        }
        if (roads.minutes(man.home, place) == NONE || man.about == DRAWN || man.about == ILL) {
            return false;
        }
        drop(man, DRAWN_OFF);
        man.about = DRAWN;
        man.drawnTo = place;
        man.drawnTill = till;
        if (man.target == NONE) {
            man.till = NONE;
            serveDrawn(man);
        }
        return true;
    }

    public boolean ill(int constable, boolean is) {
        Constable man = manOf(constable);
        if (man == null || is == (man.about == ILL)) {
            return false;
        }
        if (is) {
            drop(man, FELL_ILL);
            man.about = ILL;
            man.target = NONE;
            man.till = NONE;
            putAt(man, man.home);
        } else {
            setFree(man);
        }
        return true;
    }

    public int tick(int n) {
        if (!within(n, 0, LONGEST_TICK) || now + n > LAST_MINUTE) {
            return NONE;
        }
        makeHistory(now + n);
        for (int i = 0; i < n; i++) {
            history[now] = here;
            now++;
            for (int m = 0; m < manCount; m++) {
                Constable man = men[m];
                if (man != null && man.till == now) {
                    goOn(man);
                }
            }
        }
        return now;
    }

    private void makeHistory(int minutes) {
        if (minutes > history.length) {
            int wanted = Math.max(minutes, Math.min(2 * history.length, LAST_MINUTE));
            history = Arrays.copyOf(history, wanted);
        }
    }

    /** What a CONSTABLE went, waited or looked for is over. */
    private void goOn(Constable man) {
        boolean comes = man.target != NONE;
        if (comes) {
            int place = man.target;
            man.target = NONE;
            putAt(man, place);
        }
        man.till = NONE;
        if (man.about == ON_BEAT) {
            if (endsStep(man, comes)) {
                man.step++;
                doSteps(man);
            }
        } else if (man.about == HOMEWARD) {
            setFree(man);
        } else if (man.about == DRAWN) {
            serveDrawn(man);
        }
    }

    /** Whether the STEP is over; a POINT that was met early is not, it waits. */
    private boolean endsStep(Constable man, boolean comes) {
        int step = beats.stepAt(man.beat, man.step);
        int kind = Beats.kindOf(step);
        if (kind == LOOK) {
            look(man);
        }
        return kind != MEET || !comes || !waitsAtPoint(man, step);
    }

    /** STEPS one behind the other, up to one that takes time. */
    private void doSteps(Constable man) {
        int length = beats.stepsOf(man.beat);
        for (; man.step < length; man.step++) {
            if (takesTime(man)) {
                return;
            }
        }
        goHome(man);
    }

    private boolean takesTime(Constable man) {
        int step = beats.stepAt(man.beat, man.step);
        switch (Beats.kindOf(step)) {
            case WAIT:
                man.till = now + Beats.amountOf(step);
                return true;
            case LOOK:
                man.till = now + 1;
                return true;
            case MEET:
                return goesToMeet(man, step);
            default:
                return setsOut(man, Beats.placeOf(step));
        }
    }

    private boolean goesToMeet(Constable man, int step) {
        int place = Beats.placeOf(step);
        if (roads.minutes(man.place, place) == NONE) {
            settleRow(man, MISSED, NO_WALK);
            return false;
        }
        return setsOut(man, place) || waitsAtPoint(man, step);
    }

    /** It came to the POINT of its STEP now: whether it is early and waits. */
    private boolean waitsAtPoint(Constable man, int step) {
        int due = man.begun + Beats.amountOf(step);
        if (now > due) {
            settleRow(man, MISSED, LATE);
            return false;
        }
        settleRow(man, MET, NONE);
        if (due > now) {
            man.till = due;
            return true;
        }
        return false;
    }

    /** Whether it is on its way now; not, if it is there or there is no WALK. */
    private boolean setsOut(Constable man, int place) {
        int minutes = roads.minutes(man.place, place);
        if (minutes <= 0) {
            return false;
        }
        man.target = place;
        man.till = now + minutes;
        putAt(man, NONE);
        return true;
    }

    private void settleRow(Constable man, int what, int cause) {
        if (man.row < man.rowsEnd) {
            points.settle(man.row, what, cause, now);
            man.row++;
            if (what == MET) {
                man.met++;
            } else {
                man.missed++;
            }
        }
    }

    private void drop(Constable man, int cause) {
        if (man.about == ON_BEAT) {
            int left = man.openPoints();
            for (int i = 0; i < left; i++) {
                settleRow(man, MISSED, cause);
            }
        }
    }

    private void goHome(Constable man) {
        man.about = HOMEWARD;
        if (!setsOut(man, man.home)) {
            putAt(man, man.home);
            setFree(man);
        }
    }

    private void setFree(Constable man) {
        man.about = FREE;
        man.till = NONE;
        looks.tellNoted(man.number, now);
    }

    /** A DRAWN one is at a PLACE: it goes on to where it is wanted, stays there, or goes HOME. */
    private void serveDrawn(Constable man) {
        if (setsOut(man, man.drawnTo)) {
            return;
        }
        if (man.place == man.drawnTo && man.drawnTill > now) {
            man.till = man.drawnTill;
        } else {
            goHome(man);
        }
    }

    private void putAt(Constable man, int place) {
        man.place = place;
        int shift = PLACE_BITS * man.number;
        long sign = place == NONE ? ON_ITS_WAY : place + 1;
        here = (here & ~((long) PLACE_MASK << shift)) | (sign << shift);
    }

    /** NOT_TOLD, a PLACE and 1, or ON_ITS_WAY, as the minute was over. */
    private int placeSign(int number, int minute) {
        long all = minute < now && minute < history.length ? history[minute] : here;
        return (int) (all >> (PLACE_BITS * number)) & PLACE_MASK;
    }

    public int about(int constable, int what) throws NoSuchElementException {
        Constable man = manOf(constable);
        if (man == null) {
            throw new NoSuchElementException("no such constable");
        }
        switch (what) {
            case 0:
                return man.about;
            case 1:
                return man.place;
            case 2:
                return man.target;
            case 3:
                return man.till;
            case 4:
                return man.about == ON_BEAT ? man.step : NONE;
            case 5:
                return man.met;
            case 6:
                return man.missed;
            case 7:
                return man.years;
            case 8:
                return man.home;
            default:
                throw new NoSuchElementException("no such what");
        }
    }

    public int was(int constable, int minute) {
        if (!isMan(constable) || !isKnown(minute)) {
            return NONE;
        }
        int sign = placeSign(constable, minute);
        return sign == NOT_TOLD || sign == ON_ITS_WAY ? NONE : sign - 1;
    }

    public int point(int i, int q, int what) {
        return isKnown(q) && points.has(i) ? points.tell(i, q, what) : NONE;
    }

    public boolean cause(int i, int cause) {
        return points.has(i) && within(cause, 1, 9) && points.tellAnew(i, cause, now);
    }

    public int causes(int cause, int q) {
        return within(cause, 1, 9) && isKnown(q) ? points.countCause(cause, q) : NONE;
    }

    // ---- 2: finds, acts and sightings

    public int find(int kind, int place, int from, int to, int weight) {
        if (!within(kind, 0, 9) || !isPlace(place) || !within(weight, 1, 9)) {
            return NONE;
        }
        if (!within(from, 0, LAST_MINUTE) || !within(to, from, LAST_MINUTE)) {
            return NONE;
        }
        return looks.addFind(kind, place, from, to, weight);
    }

    public int act(int day) {
        if (!within(day, 0, LAST_DAY) || reader.readRule(true) != NONE) {
            return NONE;
        }
        return keepRule(acts, day);
    }

    private int keepRule(Rules rules, int day) {
        int number = rules.keep(day, now, reader);
        if (number != NONE) {
            reader.cut(0);
        }
        return number;
    }

    public int force(int day, int q) {
        return within(day, 0, LAST_DAY) && isKnown(q) ? acts.inForce(day, q) : NONE;
    }

    private void look(Constable man) {
        for (int f = 0; f < looks.finds; f++) {
            if (looks.canBeSeen(f, man.place, now)) {
                see(man, f);
            }
        }
    }

    private void see(Constable man, int find) {
        int day = now / DAY_LENGTH;
        int i = looks.write(man.number, find, now);
        looks.setLetter(i, Looks.CLASS, payroll.classOf(man, day, now));
        looks.setLetter(i, Looks.PRESENT, countMenAt(man.place));
        int done = acts.answer(acts.inForce(day, now), looks.letters, i * ACT_LETTERS.length());
        int opened = done == TAKEN ? cases.start(looks.kindOf(find), now) : NONE;
        looks.settle(i, done, opened, roads.minutes(man.place, 0));
    }

    private int countMenAt(int place) {
        int there = 0;
        for (int m = 0; m < manCount; m++) {
            if (men[m] != null && men[m].place == place) {
                there++;
            }
        }
        return there;
    }

    public int sighting(int i, int what) {
        return looks.has(i) ? looks.tell(i, what) : NONE;
    }

    public int should(int i, int q) {
        if (!looks.has(i) || !within(q, looks.minuteOf(i), now)) {
            return NONE;
        }
        return looks.due(i, acts, q);
    }

    public int heard(int q) {
        return isKnown(q) ? looks.countKnown(q) : NONE;
    }

    // ---- 3: cases, facts, statements and stories

    public int open(int kind) {
        return within(kind, 0, 9) ? cases.start(kind, now) : NONE;
    }

    public boolean need(int kind, int facts) {
        if (!within(kind, 0, 9) || !within(facts, 0, 255)) {
            return false;
        }
        cases.needs[kind] = facts;
        return true;
    }

    public boolean want(int fact, int many) {
        if (!within(fact, 0, 7) || !within(many, 1, 3)) {
            return false;
        }
        cases.wants[fact] = many;
        return true;
    }

    public int state(int of, int fact, int witness, boolean yes) {
        if (!cases.has(of) || !within(fact, 0, 7) || !within(witness, 0, 15)) {
            return NONE;
        }
        return cases.addStatement(of, fact, witness, yes, now);
    }

    public int withdraw(int witness) {
        return within(witness, 0, 15) ? cases.strike(witness, now) : NONE;
    }

    public int fact(int of, int fact, int q) {
        if (!within(fact, 0, 7) || !isKnown(q) || !cases.wasOpen(of, q)) {
            return NONE;
        }
        cases.weigh(of, q);
        return cases.verdictOn(fact);
    }

    public int cased(int of, int q, int what) {
        return isKnown(q) && cases.wasOpen(of, q) ? cases.tell(of, q, what) : NONE;
    }

    public int story(int of, int so, int not) {
        if (!cases.has(of) || !within(so, 0, 255) || !within(not, 0, 255) || (so & not) != 0) {
            return NONE;
        }
        return cases.addStory(of, so, not, now);
    }

    public int next(int of) {
        return cases.has(of) ? cases.bestParting(of, now) : NONE;
    }

    // ---- 4: goods lost and found

    public int good(boolean lost, int marks) {
        return within(marks, 0, 99999) ? goods.add(lost, marks) : NONE;
    }

    public boolean least(int marks) {
        return within(marks, 1, 5) && goods.setLeast(marks);
    }

    public int joining() {
        return goods.bestSum();
    }

    public int joined(int lost) {
        return goods.hasLost(lost) ? goods.firstOf(lost) : NONE;
    }

    public int rivals(int lost) {
        return goods.hasLost(lost) ? goods.foundFor(lost) : NONE;
    }

    public int sure(int lost) {
        if (!goods.hasLost(lost)) {
            return NONE;
        }
        return goods.isSure(lost) ? 1 : 0;
    }

    // ---- 5: watches, shares and fairs

    public int watch(int place, int from, int to) {
        if (!isPlace(place) || !within(from, 0, DAY_LENGTH) || !within(to, from, DAY_LENGTH)) {
            return NONE;
        }
        return plans.addWatch(place, from, to);
    }

    public int sees(int beat, int watch) {
        if (!beats.has(beat) || !plans.hasWatch(watch)) {
            return NONE;
        }
        return plans.isSeen(watch, beat, beats, roads) ? 1 : 0;
    }

    private boolean canShare(int some) {
        return some > 0 && some < 1 << beats.beats && Integer.bitCount(some) <= Plans.MOST_SHARING;
    }

    public int safe(int beats) {
        return canShare(beats) ? plans.safety(beats, this.beats, roads) : NONE;
    }

    public int share(int beats, int beat) {
        if (!canShare(beats) || !this.beats.has(beat) || (beats >> beat & 1) == 0) {
            return NONE;
        }
        return plans.sharesOf(beats, beat, this.beats, roads);
    }

    public int fair(int place, int minute, int wanted) {
        if (!isPlace(place) || !within(minute, 0, LAST_TOLD_MINUTE) || !within(wanted, 1, 3)) {
            return NONE;
        }
        return plans.addFair(place, minute, wanted);
    }

    public int lending(int what) {
        if (!within(what, 0, 1) || !findLending()) {
            return NONE;
        }
        return what == 0 ? plans.pointsLost() : plans.minutesWalked();
    }

    public int lent(int constable) {
        return isMan(constable) && findLending() ? plans.fairOf(constable) : NONE;
    }

    private boolean findLending() {
        for (int m = 0; m < manCount; m++) {
            for (int f = 0; f < plans.fairs; f++) {
                plans.setPrice(m, f, priceOf(men[m], plans.placeOfFair(f), plans.minuteOfFair(f)));
            }
        }
        return plans.lend(manCount);
    }

    /** What it costs to lend a CONSTABLE, or NONE if it can't be there in time. */
    private int priceOf(Constable man, int place, int minute) {
        if (man == null || man.about != FREE && man.about != ON_BEAT) {
            return NONE;
        }
        boolean goes = man.target != NONE;
        int walked = roads.minutes(goes ? man.target : man.place, place);
        int start = goes ? man.till : now;
        if (walked == NONE || start + walked > minute) {
            return NONE;
        }
        int lost = man.about == ON_BEAT ? man.openPoints() : 0;
        return Plans.price(lost, walked);
    }

    public void fairs() {
        plans.clearFairs();
    }

    // ---- 6: pay, booking, marks and complaints

    public int pay(int day) {
        if (!within(day, 0, LAST_DAY) || reader.readRule(false) != NONE) {
            return NONE;
        }
        return keepRule(pays, day);
    }

    public boolean rank(int constable, int rank, int day) {
        if (!isMan(constable) || !within(rank, 1, 4) || !within(day, 0, LAST_DAY)) {
            return false;
        }
        return payroll.addRank(constable, rank, day, now);
    }

    public int ranked(int constable, int day, int q) {
        Constable man = manOf(constable);
        if (man == null || !within(day, 0, LAST_DAY) || !isKnown(q)) {
            return NONE;
        }
        return payroll.classOf(man, day, q);
    }

    public int paid(int constable, int day, int q) {
        Constable man = manOf(constable);
        if (man == null || !isKnown(q) || !within(day, 0, q / DAY_LENGTH - 1)) {
            return NONE;
        }
        return wageOf(man, day, q);
    }

    private int wageOf(Constable man, int day, int q) {
        if (man == null) {
            return 0;
        }
        int[] letters = payroll.letters;
        letters[0] = payroll.classOf(man, day, q);
        letters[1] = man.years;
        letters[2] = points.countMet(man.number, day, q);
        letters[3] = points.countBlamed(man.number, day, q);
        letters[4] = looks.countTaken(man.number, day, acts, q, true);
        letters[5] = looks.countTaken(man.number, day, acts, q, false);
        int told = pays.answer(pays.inForce(day, q), letters, 0);
        return Math.max(0, Math.min(told, 10000));
    }

    public int book() {
        int days = now / DAY_LENGTH;
        for (int day = 0; day < days; day++) {
            for (int m = 0; m < manCount; m++) {
                payroll.setWage(m, day, wageOf(men[m], day, now));
            }
        }
        return payroll.bookAll(manCount, days, now);
    }

    public int line(int i, int what) {
        return payroll.tellLine(i, what);
    }

    public boolean mark(int inspector, int constable, int marks) {
        if (!within(inspector, 0, 3) || !isMan(constable) || !within(marks, 0, 10)) {
            return false;
        }
        payroll.setMark(inspector, constable, marks);
        return true;
    }

    public boolean size(int n) {
        if (!within(n, 1, MOST_MEN)) {
            return false;
        }
        payroll.enough = n;
        return true;
    }

    public int habit(int one, int other) {
        if (!within(one, 0, 3) || !within(other, 0, 3) || one == other) {
            return HIDDEN;
        }
        return payroll.compare(one, other, manCount);
    }

    public int complain(int constable, int place, int from, int to) {
        if (!isMan(constable) || !isPlace(place) || !isKnown(from) || !within(to, from, now)) {
            return NONE;
        }
        if (to - from + 1 > DAY_LENGTH) {
            return NONE;
        }
        int judged = 0;
        for (int minute = from; minute <= to; minute++) {
            int sign = placeSign(constable, minute);
            if (sign == place + 1) {
                return 1;
            }
            if (sign == ON_ITS_WAY) {
                judged = 2;
            }
        }
        return judged;
    }

    public int count(int what) {
        switch (what) {
            case 0:
                return now;
            case 1:
                return roads.paths;
            case 2:
                return manCount;
            case 3:
                return beats.beats;
            case 4:
                return points.rows;
            case 5:
                return looks.finds;
            case 6:
                return looks.takenFinds;
            case 7:
                return acts.rules;
            case 8:
                return looks.sightings;
            default:
                return countMore(what);
        }
    }

    private int countMore(int what) {
        switch (what) {
            case 9:
                return cases.opened;
            case 10:
                return cases.statements;
            case 11:
                return goods.lostGoods;
            case 12:
                return goods.foundGoods;
            case 13:
                return plans.watches;
            case 14:
                return plans.fairs;
            case 15:
                return pays.rules;
            case 16:
                return payroll.lines;
            case 17:
                return payroll.coins;
            case 18:
                return reader.length;
            default:
                return NONE;
        }
    }

    /** PATHS, and the WALKS between all PLACES, kept short as each PATH comes. */
    private static final class Roads {
        private static final int MOST = 40;
        private static final int FAR = 1000000;
        private final int[] walks = new int[PLACES * PLACES];
        int paths;

        Roads() {
            for (int i = 0; i < walks.length; i++) {
                walks[i] = i / PLACES == i % PLACES ? 0 : FAR;
            }
        }

        int minutes(int from, int to) {
            if (!isPlace(from) || !isPlace(to)) {
                return NONE;
            }
            int sum = walks[from * PLACES + to];
            return sum >= FAR ? NONE : sum;
        }

        int lay(int one, int other, int minutes) {
            if (paths >= MOST) {
                return NONE;
            }
            for (int from = 0; from < PLACES; from++) {
                for (int to = 0; to < PLACES; to++) {
                    int there = walks[from * PLACES + one] + minutes + walks[other * PLACES + to];
                    int back = walks[from * PLACES + other] + minutes + walks[one * PLACES + to];
                    int i = from * PLACES + to;
                    walks[i] = Math.min(walks[i], Math.min(there, back));
                }
            }
            paths++;
            return paths - 1;
        }
    }

    /** The TAPE, read as a BEAT into STEPS, or as an ACT or PAY into a code for Rules. */
    private static final class Reader {
        private static final int MOST_BYTES = 160;
        private static final int MOST_DIGITS = 4;
        private static final int MOST_GROUPS = 4;
        private static final int MOST_NESTED = 6;
        private static final int BLANK = 32;
        private final int[] bytes = new int[MOST_BYTES];
        int length;
        private int at;
        private int fault;
        private String letters = "";
        final int[] steps = new int[Beats.MOST_STEPS];
        int stepCount;
        boolean tooLong;
        final int[] code = new int[Rules.CODE_LENGTH];
        int codeLength;

        int takeIn(int a, int b, int c, int d, int e) {
            int more = signs(a) + signs(b) + signs(c) + signs(d) + signs(e);
            if (length + more > MOST_BYTES) {
                return NONE;
            }
            append(a);
            append(b);
            append(c);
            append(d);
            append(e);
            return length;
        }

        private static int signs(int four) {
            int many = 0;
            for (int shift = 24; shift >= 0; shift -= 8) {
                if ((four >> shift & 255) != 0) {
                    many++;
                }
            }
            return many;
        }

        private void append(int four) {
            for (int shift = 24; shift >= 0; shift -= 8) {
                int sign = four >> shift & 255;
                if (sign != 0 && length < MOST_BYTES) {
                    bytes[length] = sign;
                    length++;
                }
            }
        }

        boolean cut(int n) {
            if (!within(n, 0, length)) {
                return false;
            }
            length = n;
            return true;
        }

        private void restart(String known) {
            at = 0;
            fault = NONE;
            letters = known;
            stepCount = 0;
            tooLong = false;
            codeLength = 0;
        }

        /** The next sign that is no blank, or NONE at the end. */
        private int peek() {
            while (at < length && bytes[at] == BLANK) {
                at++;
            }
            return at < length ? bytes[at] : NONE;
        }

        private boolean fail() {
            fault = at;
            return false;
        }

        private boolean expect(int sign) {
            if (peek() != sign) {
                return fail();
            }
            at++;
            return true;
        }

        private static boolean isDigit(int sign) {
            return sign >= '0' && sign <= '9';
        }

        /** NONE, with the fault, if there is no number of these bounds. */
        private int readNumber(int least, int most) {
            int value = 0;
            int digits = 0;
            boolean fits = isDigit(peek());
            for (; fits && at < length && isDigit(bytes[at]); at++) {
                if (digits == MOST_DIGITS) {
                    fault = at;
                    return NONE;
                }
                value = value * 10 + bytes[at] - '0';
                digits++;
            }
            if (!fits) {
                fault = at;
                return NONE;
            }
            if (!within(value, least, most)) {
                fault = at - 1;
                return NONE;
            }
            return value;
        }

        /** The FAULT, or NONE. */
        int readBeat() {
            restart("");
            if (readSteps(0) && peek() != NONE) {
                fail();
            }
            return fault;
        }

        private boolean readSteps(int depth) {
            boolean sound = readStep(depth);
            for (int i = 0; i < MOST_BYTES && sound && peek() == ';'; i++) {
                at++;
                sound = readStep(depth);
            }
            return sound;
        }

        private boolean readStep(int depth) {
            switch (peek()) {
                case 'g':
                    at++;
                    return addStep(GO, readNumber(0, PLACES - 1), 0);
                case 'w':
                    at++;
                    return addStep(WAIT, 0, readNumber(1, 240));
                case 'p':
                    at++;
                    return readPoint();
                case 'l':
                    at++;
                    return addStep(LOOK, 0, 0);
                case '(':
                    return readGroup(depth);
                default:
                    return fail();
            }
        }

        private boolean readPoint() {
            int place = readNumber(0, PLACES - 1);
            return place != NONE && addStep(MEET, place, readNumber(0, DAY_LENGTH));
        }

        private boolean readGroup(int depth) {
            if (depth >= MOST_GROUPS) {
                return fail();
            }
            at++;
            int first = stepCount;
            if (!readSteps(depth + 1) || !expect(')')) {
                return false;
            }
            int times = readNumber(1, 20);
            if (times == NONE) {
                return false;
            }
            int end = stepCount;
            for (int more = 1; more < times && !tooLong; more++) {
                for (int i = first; i < end; i++) {
                    appendStep(steps[i]);
                }
            }
            return true;
        }

        private boolean addStep(int kind, int place, int amount) {
            if (place == NONE || amount == NONE) {
                return false;
            }
            appendStep(Beats.pack(kind, place, amount));
            return true;
        }

        private void appendStep(int step) {
            if (stepCount < steps.length) {
                steps[stepCount] = step;
                stepCount++;
            } else {
                tooLong = true;
            }
        }

        /** An ACT, or PAY: the FAULT, or NONE. */
        int readRule(boolean act) {
            restart(act ? ACT_LETTERS : PAY_LETTERS);
            boolean sound = act ? readActClause() : readPayClause();
            for (int i = 0; i < MOST_BYTES && sound && peek() == ';'; i++) {
                at++;
                sound = act ? readActClause() : readPayClause();
            }
            if (sound && peek() != NONE) {
                fail();
            }
            return fault;
        }

        private boolean readActClause() {
            if (!readCondition(0) || !expect('?')) {
                return false;
            }
            int jump = emit(Rules.UNLESS, 0);
            int sign = peek();
            int verdict = sign == NONE ? NONE : VERDICTS.indexOf((char) sign);
            if (verdict < 0) {
                return fail();
            }
            at++;
            emit(Rules.NUMBER, verdict);
            endClause(jump);
            return true;
        }

        /** A SUM may turn out to be the beginning of a CONDITION. */
        private boolean readPayClause() {
            int sign = peek();
            if (sign == '!' || sign == '(') {
                return readCondition(0) && readPayAnswer();
            }
            if (!readSum(0)) {
                return false;
            }
            if (isComparison(peek())) {
                return readComparison(0) && readMoreParts(0) && readPayAnswer();
            }
            endClause(NONE);
            return true;
        }

        private boolean readPayAnswer() {
            if (!expect('?')) {
                return false;
            }
            int jump = emit(Rules.UNLESS, 0);
            if (!readSum(0)) {
                return false;
            }
            endClause(jump);
            return true;
        }

        private void endClause(int jump) {
            emit(Rules.ANSWER, 0);
            if (within(jump, 0, codeLength - 1)) {
                code[jump] = Rules.pack(Rules.UNLESS, codeLength);
            }
        }

        private int emit(int sort, int argument) {
            if (codeLength >= code.length) {
                return NONE;
            }
            code[codeLength] = Rules.pack(sort, argument);
            codeLength++;
            return codeLength - 1;
        }

        private boolean readCondition(int depth) {
            return readUnit(depth) && readMoreParts(depth);
        }

        /** What may stand behind the first UNIT of a CONDITION. */
        private boolean readMoreParts(int depth) {
            boolean sound = readMoreUnits(depth);
            for (int i = 0; i < MOST_BYTES && sound && peek() == '|'; i++) {
                at++;
                sound = readUnit(depth) && readMoreUnits(depth);
                emit(Rules.OR, 0);
            }
            return sound;
        }

        private boolean readMoreUnits(int depth) {
            boolean sound = true;
            for (int i = 0; i < MOST_BYTES && sound && peek() == '&'; i++) {
                at++;
                sound = readUnit(depth);
                emit(Rules.AND, 0);
            }
            return sound;
        }

        private boolean readUnit(int depth) {
            int sign = peek();
            if (sign != '!' && sign != '(') {
                return readSum(depth) && readComparison(depth);
            }
            if (depth >= MOST_NESTED) {
                return fail();
            }
            at++;
            if (sign == '(') {
                return readCondition(depth + 1) && expect(')');
            }
            boolean sound = readUnit(depth + 1);
            emit(Rules.NOT, 0);
            return sound;
        }

        private static boolean isComparison(int sign) {
            return sign == '=' || sign == '<' || sign == '>';
        }

        private boolean readComparison(int depth) {
            int sign = peek();
            if (!isComparison(sign)) {
                return fail();
            }
            at++;
            boolean sound = readSum(depth);
            emit(sign == '=' ? Rules.EQUAL : sign == '<' ? Rules.LESS : Rules.MORE, 0);
            return sound;
        }

        private boolean readSum(int depth) {
            boolean sound = readTerm(depth);
            for (int i = 0; i < MOST_BYTES && sound && (peek() == '+' || peek() == '-'); i++) {
                int sort = peek() == '+' ? Rules.ADD : Rules.SUBTRACT;
                at++;
                sound = readTerm(depth);
                emit(sort, 0);
            }
            return sound;
        }

        private boolean readTerm(int depth) {
            boolean sound = readAtom(depth);
            for (int i = 0; i < MOST_BYTES && sound && peek() == '*'; i++) {
                at++;
                sound = readAtom(depth);
                emit(Rules.MULTIPLY, 0);
            }
            return sound;
        }

        private boolean readAtom(int depth) {
            int sign = peek();
            if (isDigit(sign)) {
                int value = readNumber(0, 9999);
                emit(Rules.NUMBER, value);
                return value != NONE;
            }
            if (sign == '[') {
                if (depth >= MOST_NESTED) {
                    return fail();
                }
                at++;
                return readSum(depth + 1) && expect(']');
            }
            int letter = sign == NONE ? NONE : letters.indexOf((char) sign);
            if (letter < 0) {
                return fail();
            }
            at++;
            emit(Rules.LETTER, letter);
            return true;
        }
    }

    /** BEATS, unfolded. */
    private static final class Beats {
        static final int MOST_STEPS = 150;
        private static final int MOST = 12;
        private final int[] steps = new int[MOST * MOST_STEPS];
        private final int[] lengths = new int[MOST];
        private final int[] meetings = new int[MOST];
        int beats;

        static int pack(int kind, int place, int amount) {
            return kind | place << 2 | amount << 6;
        }

        boolean has(int beat) {
            return beat >= 0 && beat < beats;
        }

        int keep(Reader from) {
            if (beats >= MOST || from.tooLong) {
                return NONE;
            }
            int met = 0;
            for (int i = 0; i < from.stepCount; i++) {
                steps[beats * MOST_STEPS + i] = from.steps[i];
                if (kindOf(from.steps[i]) == MEET) {
                    met++;
                }
            }
            lengths[beats] = from.stepCount;
            meetings[beats] = met;
            beats++;
            return beats - 1;
        }

        int stepsOf(int beat) {
            return has(beat) ? lengths[beat] : 0;
        }

        int pointsOf(int beat) {
            return has(beat) ? meetings[beat] : 0;
        }

        /** A STEP in one number. */
        int stepAt(int beat, int step) {
            int i = beat * MOST_STEPS + step;
            return i >= 0 && i < steps.length ? steps[i] : 0;
        }

        static int kindOf(int step) {
            return step & 3;
        }

        static int placeOf(int step) {
            return step >> 2 & 15;
        }

        static int amountOf(int step) {
            return step >> 6;
        }

        /** Whether one who begins at PLACE 0 at minute 0 has a look over at the PLACE at one of the minutes. */
        boolean looksAt(int beat, int place, int from, int to, Roads roads) {
            int minute = 0;
            int at = 0;
            int length = stepsOf(beat);
            for (int i = 0; i < length; i++) {
                int step = stepAt(beat, i);
                int kind = kindOf(step);
                if (kind == LOOK) {
                    minute++;
                    if (at == place && within(minute, from, to)) {
                        return true;
                    }
                } else if (kind == WAIT) {
                    minute += amountOf(step);
                } else {
                    int walked = roads.minutes(at, placeOf(step));
                    if (walked != NONE) {
                        at = placeOf(step);
                        minute += walked;
                        minute = kind == MEET ? Math.max(minute, amountOf(step)) : minute;
                    }
                }
            }
            return false;
        }
    }

    /** Texts from a DAY on, told at some MINUTE: ACTS, or PAY. */
    private static final class Rules {
        static final int CODE_LENGTH = 164;
        static final int NUMBER = 0;
        static final int LETTER = 1;
        static final int NOT = 2;
        static final int UNLESS = 3;
        static final int ANSWER = 4;
        static final int ADD = 5;
        static final int SUBTRACT = 6;
        static final int MULTIPLY = 7;
        static final int EQUAL = 8;
        static final int LESS = 9;
        static final int MORE = 10;
        static final int AND = 11;
        static final int OR = 12;
        private static final int MOST = 20;
        private static final int BOUND = 1000000;
        private final int[] days = new int[MOST];
        private final int[] told = new int[MOST];
        private final int[] lengths = new int[MOST];
        private final int[] codes = new int[MOST * CODE_LENGTH];
        private final int[] stack = new int[CODE_LENGTH];
        int rules;

        static int pack(int sort, int argument) {
            return sort | argument << 4;
        }

        int keep(int day, int now, Reader from) {
            if (rules >= MOST) {
                return NONE;
            }
            days[rules] = day;
            told[rules] = now;
            lengths[rules] = from.codeLength;
            System.arraycopy(from.code, 0, codes, rules * CODE_LENGTH, from.codeLength);
            rules++;
            return rules - 1;
        }

        int inForce(int day, int q) {
            int best = NONE;
            for (int i = 0; i < rules; i++) {
                if (told[i] <= q && days[i] <= day && (best == NONE || days[i] >= days[best])) {
                    best = i;
                }
            }
            return best;
        }

        /** What a text tells with letters whose values begin at an offset; 0 if there is none. */
        int answer(int rule, int[] letters, int offset) {
            if (!within(rule, 0, rules - 1)) {
                return 0;
            }
            int top = 0;
            for (int i = 0; i < lengths[rule]; i++) {
                int sort = codes[rule * CODE_LENGTH + i] & 15;
                int argument = codes[rule * CODE_LENGTH + i] >> 4;
                if (sort == NUMBER || sort == LETTER) {
                    if (top >= stack.length) {
                        return 0;
                    }
                    stack[top] = sort == NUMBER ? argument : valueOf(letters, offset + argument);
                    top++;
                } else if (sort >= ADD) {
                    if (top < 2) {
                        return 0;
                    }
                    top--;
                    stack[top - 1] = combine(sort, stack[top - 1], stack[top]);
                } else if (top < 1) {
                    return 0;
                } else if (sort == NOT) {
                    stack[top - 1] = 1 - stack[top - 1];
                } else if (sort == ANSWER) {
                    return stack[top - 1];
                } else {
                    top--;
                    i = stack[top] == 0 ? Math.max(i, argument - 1) : i;
                }
            }
            return 0;
        }

        private static int valueOf(int[] letters, int i) {
            return within(i, 0, letters.length - 1) ? letters[i] : 0;
        }

        private static int combine(int sort, int one, int other) {
            switch (sort) {
                case ADD:
                    return bounded((long) one + other);
                case SUBTRACT:
                    return bounded((long) one - other);
                case MULTIPLY:
                    return bounded((long) one * other);
                case EQUAL:
                    return one == other ? 1 : 0;
                case LESS:
                    return one < other ? 1 : 0;
                case MORE:
                    return one > other ? 1 : 0;
                case AND:
                    return one & other;
                default:
                    return one | other;
            }
        }

        private static int bounded(long value) {
            return value > BOUND ? BOUND : value < -BOUND ? -BOUND : (int) value;
        }
    }

    /** What is known of a CONSTABLE; NONE stands for no PLACE and no minute. */
    private static final class Constable {
        final int number;
        final int rank;
        final int years;
        final int home;
        int about = FREE;
        int place = NONE;
        int target = NONE;
        int till = NONE;
        int beat;
        int step;
        int begun;
        /** The first ROW of its BEAT that is open, and the one behind its last. */
        int row;
        int rowsEnd;
        int drawnTo;
        int drawnTill;
        int met;
        int missed;

        Constable(int number, int rank, int years, int home) {
            this.number = number;
            this.rank = rank;
            this.years = years;
            this.home = home;
        }

        int openPoints() {
            return rowsEnd - row;
        }
    }

    /** ROWS of POINTS, and causes told anew. */
    private static final class Points {
        private static final int MOST = 400;
        private static final int MOST_TOLD = 200;
        private final int[] man = new int[MOST];
        private final int[] place = new int[MOST];
        private final int[] due = new int[MOST];
        private final int[] begun = new int[MOST];
        private final int[] outcome = new int[MOST];
        private final int[] settled = new int[MOST];
        private final int[] firstCause = new int[MOST];
        int rows;
        private final int[] toldRow = new int[MOST_TOLD];
        private final int[] toldCause = new int[MOST_TOLD];
        private final int[] toldAt = new int[MOST_TOLD];
        private int tellings;

        boolean has(int i) {
            return i >= 0 && i < rows;
        }

        boolean hasRoom(int more) {
            return rows + more <= MOST;
        }

        void write(int who, int where, int dueAt, int now) {
            if (rows < MOST) {
                man[rows] = who;
                place[rows] = where;
                due[rows] = dueAt;
                begun[rows] = now;
                rows++;
            }
        }

        void settle(int i, int what, int cause, int now) {
            if (i >= 0 && i < rows) {
                outcome[i] = what;
                firstCause[i] = cause;
                settled[i] = now;
            }
        }

        private int outcomeAt(int i, int q) {
            return outcome[i] != 0 && settled[i] <= q ? outcome[i] : 0;
        }

        private int causeAt(int i, int q) {
            if (outcomeAt(i, q) != MISSED) {
                return NONE;
            }
            int cause = firstCause[i];
            for (int t = 0; t < tellings; t++) {
                if (toldRow[t] == i && toldAt[t] <= q) {
                    cause = toldCause[t];
                }
            }
            return cause;
        }

        int tell(int i, int q, int what) {
            if (!has(i) || begun[i] > q) {
                return NONE;
            }
            switch (what) {
                case 0:
                    return man[i];
                case 1:
                    return place[i];
                case 2:
                    return due[i];
                case 3:
                    return outcomeAt(i, q);
                case 4:
                    return causeAt(i, q);
                default:
                    return NONE;
            }
        }

        boolean tellAnew(int i, int cause, int now) {
            if (!has(i) || outcome[i] != MISSED || tellings >= MOST_TOLD) {
                return false;
            }
            toldRow[tellings] = i;
            toldCause[tellings] = cause;
            toldAt[tellings] = now;
            tellings++;
            return true;
        }

        int countCause(int cause, int q) {
            int many = 0;
            for (int i = 0; i < rows; i++) {
                if (causeAt(i, q) == cause) {
                    many++;
                }
            }
            return many;
        }

        private boolean wasDue(int i, int who, int day) {
            return man[i] == who && due[i] / DAY_LENGTH == day;
        }

        int countMet(int who, int day, int q) {
            int many = 0;
            for (int i = 0; i < rows; i++) {
                if (wasDue(i, who, day) && outcomeAt(i, q) == MET) {
                    many++;
                }
            }
            return many;
        }

        /** Those MISSED by a cause that is told against the CONSTABLE. */
        int countBlamed(int who, int day, int q) {
            int many = 0;
            for (int i = 0; i < rows; i++) {
                if (wasDue(i, who, day)) {
                    int cause = causeAt(i, q);
                    if (cause == LATE || cause >= 5) {
                        many++;
                    }
                }
            }
            return many;
        }
    }

    /** FINDS and SIGHTINGS, with the letters as they were at each SIGHTING. */
    private static final class Looks {
        static final int CLASS = 5;
        static final int PRESENT = 6;
        private static final int MOST_FINDS = 80;
        private static final int MOST = 300;
        private static final int LETTERS = 9;
        private final int[] kind = new int[MOST_FINDS];
        private final int[] place = new int[MOST_FINDS];
        private final int[] from = new int[MOST_FINDS];
        private final int[] to = new int[MOST_FINDS];
        private final int[] weight = new int[MOST_FINDS];
        private final int[] seen = new int[MOST_FINDS];
        private final boolean[] taken = new boolean[MOST_FINDS];
        int finds;
        int takenFinds;
        private final int[] man = new int[MOST];
        private final int[] find = new int[MOST];
        private final int[] minute = new int[MOST];
        private final int[] done = new int[MOST];
        private final int[] opened = new int[MOST];
        private final int[] known = new int[MOST];
        final int[] letters = new int[MOST * LETTERS];
        int sightings;

        int addFind(int ofKind, int at, int first, int last, int heavy) {
            if (finds >= MOST_FINDS) {
                return NONE;
            }
            kind[finds] = ofKind;
            place[finds] = at;
            from[finds] = first;
            to[finds] = last;
            weight[finds] = heavy;
            finds++;
            return finds - 1;
        }

        int kindOf(int f) {
            return within(f, 0, finds - 1) ? kind[f] : 0;
        }

        boolean has(int i) {
            return i >= 0 && i < sightings;
        }

        boolean canBeSeen(int f, int at, int now) {
            boolean open = within(f, 0, finds - 1) && sightings < MOST && !taken[f];
            return open && place[f] == at && within(now, from[f], to[f]);
        }

        /** A SIGHTING whose letters are all told but the CLASS and how many are there. */
        int write(int who, int f, int now) {
            if (sightings >= MOST || !within(f, 0, finds - 1)) {
                return NONE;
            }
            int i = sightings;
            man[i] = who;
            find[i] = f;
            minute[i] = now;
            done[i] = 0;
            opened[i] = NONE;
            known[i] = NONE;
            sightings++;
            int first = i * LETTERS;
            letters[first] = kind[f];
            letters[first + 1] = weight[f];
            letters[first + 2] = place[f];
            letters[first + 3] = now % DAY_LENGTH / 60;
            letters[first + 4] = now / DAY_LENGTH;
            letters[first + 7] = seen[f];
            letters[first + 8] = now - from[f];
            seen[f]++;
            return i;
        }

        void setLetter(int i, int letter, int value) {
            if (has(i) && within(letter, 0, LETTERS - 1)) {
                letters[i * LETTERS + letter] = value;
            }
        }

        void settle(int i, int what, int toCase, int walkToHouse) {
            if (!has(i)) {
                return;
            }
            done[i] = what;
            opened[i] = toCase;
            if (what > NOTED && walkToHouse != NONE) {
                known[i] = minute[i] + walkToHouse;
            }
            if (what == TAKEN) {
                taken[find[i]] = true;
                takenFinds++;
            }
        }

        /** A CONSTABLE is FREE: what it noted is known at the house. */
        void tellNoted(int who, int now) {
            for (int i = 0; i < sightings; i++) {
                if (man[i] == who && done[i] == NOTED && known[i] == NONE) {
                    known[i] = now;
                }
            }
        }

        int minuteOf(int i) {
            return has(i) ? minute[i] : NONE;
        }

        int tell(int i, int what) {
            if (!has(i)) {
                return NONE;
            }
            switch (what) {
                case 0:
                    return man[i];
                case 1:
                    return find[i];
                case 2:
                    return minute[i];
                case 3:
                    return done[i];
                case 4:
                    return opened[i];
                case 5:
                    return known[i];
                default:
                    return NONE;
            }
        }

        /** What SHOULD have been done, as known at q. */
        int due(int i, Rules acts, int q) {
            if (!has(i)) {
                return NONE;
            }
            return acts.answer(acts.inForce(minute[i] / DAY_LENGTH, q), letters, i * LETTERS);
        }

        int countKnown(int q) {
            int many = 0;
            for (int i = 0; i < sightings; i++) {
                if (known[i] != NONE && known[i] <= q) {
                    many++;
                }
            }
            return many;
        }

        /** SIGHTINGS of a DAY that were TAKEN, rightly or not as known at q. */
        int countTaken(int who, int day, Rules acts, int q, boolean rightly) {
            int many = 0;
            for (int i = 0; i < sightings; i++) {
                if (man[i] == who && done[i] == TAKEN && minute[i] / DAY_LENGTH == day) {
                    if ((due(i, acts, q) == TAKEN) == rightly) {
                        many++;
                    }
                }
            }
            return many;
        }
    }

    /** CASES with their STATEMENTS and STORIES. */
    private static final class Cases {
        private static final int MOST = 30;
        private static final int MOST_STATEMENTS = 200;
        private static final int MOST_STORIES = 6;
        private static final int FACTS = 8;
        private static final int WITNESSES = 16;
        private static final int PROVED = 1;
        private static final int REFUTED = 2;
        private static final int DOUBT = 3;
        private final int[] kind = new int[MOST];
        private final int[] openedAt = new int[MOST];
        private final int[] stories = new int[MOST];
        int opened;
        final int[] needs = new int[10];
        final int[] wants = new int[FACTS];
        /** CASE, FACT, WITNESS and yes in one number, and the MINUTE it was told. */
        private final int[] statement = new int[MOST_STATEMENTS];
        private final int[] statedAt = new int[MOST_STATEMENTS];
        int statements;
        private final int[] withdrawnAt = new int[WITNESSES];
        private final int[] storySo = new int[MOST * MOST_STORIES];
        private final int[] storyNot = new int[MOST * MOST_STORIES];
        private final int[] storyAt = new int[MOST * MOST_STORIES];
        /** WITNESSES who say yes and no to each FACT of the CASE that was weighed last. */
        private final int[] yesBits = new int[FACTS];
        private final int[] noBits = new int[FACTS];
        private final int[] before = new int[MOST];

        Cases() {
            Arrays.fill(wants, 1);
            Arrays.fill(withdrawnAt, NONE);
        }

        boolean has(int of) {
            return of >= 0 && of < opened;
        }

        boolean wasOpen(int of, int q) {
            return has(of) && openedAt[of] <= q;
        }

        int start(int ofKind, int now) {
            if (opened >= MOST) {
                return NONE;
            }
            kind[opened] = ofKind;
            openedAt[opened] = now;
            opened++;
            return opened - 1;
        }

        int addStatement(int of, int fact, int witness, boolean yes, int now) {
            if (statements >= MOST_STATEMENTS || !within(witness, 0, WITNESSES - 1) || withdrawnAt[witness] != NONE) {
                return NONE;
            }
            statement[statements] = of << 8 | fact << 5 | witness << 1 | (yes ? 1 : 0);
            statedAt[statements] = now;
            statements++;
            return statements - 1;
        }

        /** Fills the rows of those who say yes and no, as known at q. */
        void weigh(int of, int q) {
            Arrays.fill(yesBits, 0);
            Arrays.fill(noBits, 0);
            for (int i = 0; i < statements; i++) {
                if (statement[i] >> 8 == of && statedAt[i] <= q) {
                    int fact = statement[i] >> 5 & 7;
                    int witness = 1 << (statement[i] >> 1 & 15);
                    boolean yes = (statement[i] & 1) == 1;
                    yesBits[fact] = yes ? yesBits[fact] | witness : yesBits[fact] & ~witness;
                    noBits[fact] = yes ? noBits[fact] & ~witness : noBits[fact] | witness;
                }
            }
            int left = stillHeard(q);
            for (int fact = 0; fact < FACTS; fact++) {
                yesBits[fact] &= left;
                noBits[fact] &= left;
            }
        }

        private int stillHeard(int q) {
            int bits = 0;
            for (int w = 0; w < WITNESSES; w++) {
                if (withdrawnAt[w] == NONE || withdrawnAt[w] > q) {
                    bits |= 1 << w;
                }
            }
            return bits;
        }

        /** What a FACT of the CASE that was weighed last is. */
        int verdictOn(int fact) {
            if (!within(fact, 0, FACTS - 1)) {
                return NONE;
            }
            int yes = Integer.bitCount(yesBits[fact]);
            int no = Integer.bitCount(noBits[fact]);
            if (yes > 0 && no > 0) {
                return DOUBT;
            }
            return yes >= wants[fact] ? PROVED : no >= wants[fact] ? REFUTED : 0;
        }

        /** The FACTS of the CASE weighed last that are so, as bits. */
        private int factsThatAre(int verdict) {
            int bits = 0;
            for (int fact = 0; fact < FACTS; fact++) {
                if (verdictOn(fact) == verdict) {
                    bits |= 1 << fact;
                }
            }
            return bits;
        }

        private int needsOf(int of) {
            return has(of) && within(kind[of], 0, needs.length - 1) ? needs[kind[of]] : 0;
        }

        /** Of the CASE weighed last. */
        private int lacks(int of) {
            return needsOf(of) & ~factsThatAre(PROVED);
        }

        private int standing(int of) {
            if ((needsOf(of) & factsThatAre(REFUTED)) != 0) {
                return 2;
            }
            return lacks(of) == 0 ? 1 : 0;
        }

        int tell(int of, int q, int what) {
            if (!has(of)) {
                return NONE;
            }
            weigh(of, q);
            switch (what) {
                case 0:
                    return standing(of);
                case 1:
                    return lacks(of);
                case 2:
                    return kind[of];
                case 3:
                    return openedAt[of];
                case 4:
                    return countStories(of, q, 0, false);
                default:
                    return NONE;
            }
        }

        /** How many CASES are otherwise once a WITNESS is WITHDRAWN. */
        int strike(int witness, int now) {
            if (!within(witness, 0, WITNESSES - 1) || withdrawnAt[witness] != NONE) {
                return NONE;
            }
            for (int of = 0; of < opened; of++) {
                before[of] = wholeStanding(of, now);
            }
            withdrawnAt[witness] = now;
            int changed = 0;
            for (int of = 0; of < opened; of++) {
                if (before[of] != wholeStanding(of, now)) {
                    changed++;
                }
            }
            return changed;
        }

        private int wholeStanding(int of, int now) {
            weigh(of, now);
            return standing(of) << FACTS | lacks(of);
        }

        int addStory(int of, int so, int not, int now) {
            if (!has(of) || stories[of] >= MOST_STORIES) {
                return NONE;
            }
            int i = of * MOST_STORIES + stories[of];
            storySo[i] = so;
            storyNot[i] = not;
            storyAt[i] = now;
            stories[of]++;
            return stories[of] - 1;
        }

        /** STORIES that STAND of the CASE weighed last, and have all these FACTS so, or not so. */
        private int countStories(int of, int q, int facts, boolean so) {
            int refuted = factsThatAre(REFUTED);
            int proved = factsThatAre(PROVED);
            int many = 0;
            for (int s = 0; s < stories[of]; s++) {
                int i = of * MOST_STORIES + s;
                boolean stands = (storySo[i] & refuted) == 0 && (storyNot[i] & proved) == 0;
                int held = so ? storySo[i] : storyNot[i];
                if (storyAt[i] <= q && stands && (held & facts) == facts) {
                    many++;
                }
            }
            return many;
        }

        int bestParting(int of, int now) {
            if (!has(of)) {
                return NONE;
            }
            weigh(of, now);
            int best = NONE;
            int bestLesser = 0;
            int bestSum = 0;
            for (int fact = 0; fact < FACTS; fact++) {
                int verdict = verdictOn(fact);
                if (verdict == PROVED || verdict == REFUTED) {
                    continue;
                }
                int so = countStories(of, now, 1 << fact, true);
                int not = countStories(of, now, 1 << fact, false);
                int lesser = Math.min(so, not);
                if (lesser > bestLesser || lesser > 0 && lesser == bestLesser && so + not > bestSum) {
                    best = fact;
                    bestLesser = lesser;
                    bestSum = so + not;
                }
            }
            return best;
        }
    }

    /** GOODS and all BEST JOININGS, found anew only when something came. */
    private static final class Goods {
        private static final int MOST = 8;
        private static final int SETS = 1 << MOST;
        private static final int MARKS = 5;
        /** Among the choices of a LOST good: joined to none. */
        private static final int TO_NONE = 1 << MOST;
        private final int[] lost = new int[MOST];
        private final int[] found = new int[MOST];
        int lostGoods;
        int foundGoods;
        private int leastMarks = 3;
        private boolean stale = true;
        private final int[] gain = new int[MOST * MOST];
        /** The greatest sum from a LOST good on, if these FOUND ones are joined already. */
        private final int[] best = new int[(MOST + 1) * SETS];
        private final boolean[] reached = new boolean[(MOST + 1) * SETS];
        private final int[] choices = new int[MOST];
        private final int[] first = new int[MOST];

        int add(boolean isLost, int marks) {
            int many = isLost ? lostGoods : foundGoods;
            if (many >= MOST) {
                return NONE;
            }
            stale = true;
            if (isLost) {
                lost[many] = marks;
                lostGoods++;
            } else {
                found[many] = marks;
                foundGoods++;
            }
            return many;
        }

        boolean setLeast(int marks) {
            leastMarks = marks;
            stale = true;
            return true;
        }

        boolean hasLost(int i) {
            return i >= 0 && i < lostGoods;
        }

        int bestSum() {
            solve();
            return best[0];
        }

        int firstOf(int i) {
            solve();
            return hasLost(i) ? first[i] : NONE;
        }

        int foundFor(int i) {
            solve();
            return hasLost(i) ? choices[i] & ~TO_NONE : NONE;
        }

        boolean isSure(int i) {
            solve();
            return hasLost(i) && Integer.bitCount(choices[i]) == 1;
        }

        private void solve() {
            if (stale) {
                fillGains();
                fillBest();
                fillChoices();
                fillFirst();
                stale = false;
            }
        }

        private static int alike(int one, int other) {
            int many = 0;
            int left = one;
            int right = other;
            for (int i = 0; i < MARKS; i++) {
                if (left % 10 == right % 10) {
                    many++;
                }
                left /= 10;
                right /= 10;
            }
            return many;
        }

        /** 0 for a pair that is not LIKE enough. */
        private void fillGains() {
            for (int i = 0; i < lostGoods; i++) {
                for (int f = 0; f < foundGoods; f++) {
                    int like = alike(lost[i], found[f]);
                    gain[i * MOST + f] = like >= leastMarks ? like : 0;
                }
            }
        }

        private boolean canJoin(int i, int f, int used) {
            return (used >> f & 1) == 0 && gain[i * MOST + f] > 0;
        }

        /** The sum if the LOST good is joined to this FOUND one. */
        private int sumWith(int i, int f, int used) {
            return gain[i * MOST + f] + best[(i + 1) * SETS + (used | 1 << f)];
        }

        private void fillBest() {
            Arrays.fill(best, 0);
            int sets = 1 << foundGoods;
            for (int i = lostGoods - 1; i >= 0; i--) {
                for (int used = 0; used < sets; used++) {
                    int most = best[(i + 1) * SETS + used];
                    for (int f = 0; f < foundGoods; f++) {
                        if (canJoin(i, f, used)) {
                            most = Math.max(most, sumWith(i, f, used));
                        }
                    }
                    best[i * SETS + used] = most;
                }
            }
        }

        private void fillChoices() {
            for (int i = 0; i < reached.length; i++) {
                reached[i] = false;
            }
            Arrays.fill(choices, 0);
            reached[0] = true;
            int sets = 1 << foundGoods;
            for (int i = 0; i < lostGoods; i++) {
                for (int used = 0; used < sets; used++) {
                    if (reached[i * SETS + used]) {
                        spreadFrom(i, used);
                    }
                }
            }
        }

        private void spreadFrom(int i, int used) {
            int most = best[i * SETS + used];
            if (best[(i + 1) * SETS + used] == most) {
                choices[i] |= TO_NONE;
                reached[(i + 1) * SETS + used] = true;
            }
            for (int f = 0; f < foundGoods; f++) {
                if (canJoin(i, f, used) && sumWith(i, f, used) == most) {
                    choices[i] |= 1 << f;
                    reached[(i + 1) * SETS + (used | 1 << f)] = true;
                }
            }
        }

        private void fillFirst() {
            int used = 0;
            for (int i = 0; i < lostGoods; i++) {
                first[i] = NONE;
                for (int f = 0; f < foundGoods && first[i] == NONE; f++) {
                    if (canJoin(i, f, used) && sumWith(i, f, used) == best[i * SETS + used]) {
                        first[i] = f;
                    }
                }
                if (first[i] != NONE) {
                    used |= 1 << first[i];
                }
            }
        }
    }

    /** WATCHES and the BEST SHARES; FAIRS and the BEST LENDING. */
    private static final class Plans {
        static final int MOST_SHARING = 5;
        private static final int MOST_WATCHES = 8;
        private static final int TWELFTHS = 12;
        private static final int SUM_BITS = 4;
        private static final int MOST_FAIRS = 4;
        private static final int STATES = 256;
        private static final int A_POINT = 100000;
        private static final int NEVER = 1000000000;
        private final int[] watchPlace = new int[MOST_WATCHES];
        private final int[] watchFrom = new int[MOST_WATCHES];
        private final int[] watchTo = new int[MOST_WATCHES];
        int watches;
        /** For each of the BEATS that share: a 1 for each WATCH it SEES, SUM_BITS apart. */
        private final long[] sight = new long[MOST_SHARING];
        private final int[] trial = new int[MOST_SHARING];
        private final int[] shares = new int[MOST_SHARING];
        private int sharing;
        private int bestSafe;
        private int bestSum;
        /** What the shares at hand were found for; more PATHS or WATCHES make others. */
        private int sharedBeats;
        private int sharedPaths;
        private int sharedWatches;
        private final int[] fairPlace = new int[MOST_FAIRS];
        private final int[] fairMinute = new int[MOST_FAIRS];
        private final int[] fairWanted = new int[MOST_FAIRS];
        int fairs;
        private final int[] prices = new int[MOST_MEN * MOST_FAIRS];
        /** The least cost from a CONSTABLE on, by how many each FAIR still wants. */
        private final int[] costs = new int[(MOST_MEN + 1) * STATES];
        private final int[] lentTo = new int[MOST_MEN];

        int addWatch(int place, int from, int to) {
            if (watches >= MOST_WATCHES) {
                return NONE;
            }
            watchPlace[watches] = place;
            watchFrom[watches] = from;
            watchTo[watches] = to;
            watches++;
            return watches - 1;
        }

        boolean hasWatch(int watch) {
            return watch >= 0 && watch < watches;
        }

        boolean isSeen(int watch, int beat, Beats beats, Roads roads) {
            return hasWatch(watch) && beats.looksAt(beat, watchPlace[watch], watchFrom[watch], watchTo[watch], roads);
        }

        int safety(int some, Beats beats, Roads roads) {
            findShares(some, beats, roads);
            return bestSafe;
        }

        int sharesOf(int some, int beat, Beats beats, Roads roads) {
            findShares(some, beats, roads);
            int ahead = Integer.bitCount(some & ((1 << beat) - 1));
            return within(ahead, 0, sharing - 1) ? shares[ahead] : NONE;
        }

        private void findShares(int some, Beats beats, Roads roads) {
            if (some == sharedBeats && roads.paths == sharedPaths && watches == sharedWatches) {
                return;
            }
            sharedBeats = some;
            sharedPaths = roads.paths;
            sharedWatches = watches;
            sharing = 0;
            for (int beat = 0; beat < beats.beats; beat++) {
                if ((some >> beat & 1) == 1 && sharing < MOST_SHARING) {
                    sight[sharing] = sightOf(beat, beats, roads);
                    sharing++;
                }
            }
            bestSafe = NONE;
            bestSum = NONE;
            deal(0, TWELFTHS, 0);
        }

        private long sightOf(int beat, Beats beats, Roads roads) {
            long bits = 0;
            for (int w = 0; w < watches; w++) {
                if (isSeen(w, beat, beats, roads)) {
                    bits |= 1L << SUM_BITS * w;
                }
            }
            return bits;
        }

        /** More to the lower BEAT comes first, so that only what is better takes its place. */
        private void deal(int i, int left, long sums) {
            if (i >= sharing || i >= MOST_SHARING) {
                return;
            }
            if (i == sharing - 1) {
                trial[i] = left;
                judge(sums + left * sight[i]);
                return;
            }
            for (int mine = left; mine >= 0; mine--) {
                trial[i] = mine;
                deal(i + 1, left - mine, sums + mine * sight[i]);
            }
        }

        private void judge(long sums) {
            int safe = TWELFTHS;
            int sum = 0;
            for (int w = 0; w < watches; w++) {
                int seen = (int) (sums >> SUM_BITS * w) & 15;
                safe = Math.min(safe, seen);
                sum += seen;
            }
            if (safe > bestSafe || safe == bestSafe && sum > bestSum) {
                bestSafe = safe;
                bestSum = sum;
                System.arraycopy(trial, 0, shares, 0, MOST_SHARING);
            }
        }

        int addFair(int place, int minute, int wanted) {
            if (fairs >= MOST_FAIRS) {
                return NONE;
            }
            fairPlace[fairs] = place;
            fairMinute[fairs] = minute;
            fairWanted[fairs] = wanted;
            fairs++;
            return fairs - 1;
        }

        void clearFairs() {
            fairs = 0;
        }

        int placeOfFair(int f) {
            return within(f, 0, fairs - 1) ? fairPlace[f] : NONE;
        }

        int minuteOfFair(int f) {
            return within(f, 0, fairs - 1) ? fairMinute[f] : NONE;
        }

        /** A POINT weighs more than all minutes that twelve can walk. */
        static int price(int lost, int walked) {
            return lost * A_POINT + walked;
        }

        void setPrice(int man, int fair, int price) {
            if (within(man, 0, MOST_MEN - 1) && within(fair, 0, MOST_FAIRS - 1)) {
                prices[man * MOST_FAIRS + fair] = price;
            }
        }

        /** How many each FAIR wants, two bits a FAIR. */
        private int allWanted() {
            int state = 0;
            for (int f = 0; f < fairs; f++) {
                state |= fairWanted[f] << 2 * f;
            }
            return state;
        }

        /** Whether there is a LENDING with the prices at hand. */
        boolean lend(int men) {
            int many = Math.min(men, MOST_MEN);
            int full = allWanted();
            for (int state = 0; state <= full; state++) {
                costs[many * STATES + state] = state == 0 ? 0 : NEVER;
            }
            for (int m = many - 1; m >= 0; m--) {
                for (int state = 0; state <= full; state++) {
                    costs[m * STATES + state] = leastCost(m, state);
                }
            }
            if (costs[full] >= NEVER) {
                return false;
            }
            traceLending(many, full);
            return true;
        }

        /** What it costs if the CONSTABLE goes to this FAIR and the others do the rest at least cost. */
        private int costWith(int man, int fair, int state) {
            int price = prices[man * MOST_FAIRS + fair];
            if ((state >> 2 * fair & 3) == 0 || price == NONE) {
                return NEVER;
            }
            return Math.min(NEVER, price + costs[(man + 1) * STATES + state - (1 << 2 * fair)]);
        }

        private int leastCost(int man, int state) {
            int least = costs[(man + 1) * STATES + state];
            for (int f = 0; f < fairs; f++) {
                least = Math.min(least, costWith(man, f, state));
            }
            return least;
        }

        private void traceLending(int many, int full) {
            int state = full;
            for (int m = 0; m < many; m++) {
                lentTo[m] = NONE;
                for (int f = 0; f < fairs && lentTo[m] == NONE; f++) {
                    int cost = costWith(m, f, state);
                    if (cost < NEVER && cost == costs[m * STATES + state]) {
                        lentTo[m] = f;
                    }
                }
                if (lentTo[m] != NONE) {
                    state -= 1 << 2 * lentTo[m];
                }
            }
        }

        int pointsLost() {
            return costs[allWanted()] / A_POINT;
        }

        int minutesWalked() {
            return costs[allWanted()] % A_POINT;
        }

        int fairOf(int man) {
            return within(man, 0, MOST_MEN - 1) ? lentTo[man] : NONE;
        }
    }

    /** Changes of CLASS, LINES and marks. */
    private static final class Payroll {
        private static final int MOST_RANKS = 40;
        private static final int MOST_LINES = 600;
        private static final int DAYS = 14;
        private static final int INSPECTORS = 4;
        private final int[] rankMan = new int[MOST_RANKS];
        private final int[] rankTo = new int[MOST_RANKS];
        private final int[] rankDay = new int[MOST_RANKS];
        private final int[] rankTold = new int[MOST_RANKS];
        private int ranks;
        /** The values of the letters of PAY. */
        final int[] letters = new int[6];
        private final int[] wages = new int[MOST_MEN * DAYS];
        private final int[] booked = new int[MOST_MEN * DAYS];
        private final int[] lineMan = new int[MOST_LINES];
        private final int[] lineDay = new int[MOST_LINES];
        private final int[] lineCoins = new int[MOST_LINES];
        private final int[] lineMinute = new int[MOST_LINES];
        int lines;
        int coins;
        private final int[] marks = new int[INSPECTORS * MOST_MEN];
        int enough = 3;

        Payroll() {
            Arrays.fill(marks, NONE);
        }

        boolean addRank(int man, int rank, int day, int now) {
            if (ranks >= MOST_RANKS) {
                return false;
            }
            rankMan[ranks] = man;
            rankTo[ranks] = rank;
            rankDay[ranks] = day;
            rankTold[ranks] = now;
            ranks++;
            return true;
        }

        int classOf(Constable man, int day, int q) {
            int rank = man.rank;
            int from = NONE;
            for (int i = 0; i < ranks; i++) {
                if (rankMan[i] == man.number && rankTold[i] <= q && within(rankDay[i], from, day)) {
                    rank = rankTo[i];
                    from = rankDay[i];
                }
            }
            return rank;
        }

        void setWage(int man, int day, int coinsDue) {
            if (within(man, 0, MOST_MEN - 1) && within(day, 0, DAYS - 1)) {
                wages[day * MOST_MEN + man] = coinsDue;
            }
        }

        /** Books the wages at hand: how many LINES came, or NONE if there is no room for all. */
        int bookAll(int men, int days, int now) {
            int cells = Math.min(days, DAYS) * MOST_MEN;
            int more = 0;
            for (int i = 0; i < cells; i++) {
                if (i % MOST_MEN < men && wages[i] != booked[i]) {
                    more++;
                }
            }
            if (lines + more > MOST_LINES) {
                return NONE;
            }
            for (int i = 0; i < cells; i++) {
                if (i % MOST_MEN < men && wages[i] != booked[i]) {
                    writeLine(i, now);
                }
            }
            return more;
        }

        private void writeLine(int cell, int now) {
            if (lines < MOST_LINES) {
                lineMan[lines] = cell % MOST_MEN;
                lineDay[lines] = cell / MOST_MEN;
                lineCoins[lines] = wages[cell] - booked[cell];
                lineMinute[lines] = now;
                coins += lineCoins[lines];
                booked[cell] = wages[cell];
                lines++;
            }
        }

        int tellLine(int i, int what) {
            if (!within(i, 0, lines - 1)) {
                return HIDDEN;
            }
            switch (what) {
                case 0:
                    return lineMan[i];
                case 1:
                    return lineDay[i];
                case 2:
                    return lineCoins[i];
                case 3:
                    return lineMinute[i];
                default:
                    return HIDDEN;
            }
        }

        void setMark(int inspector, int man, int given) {
            if (within(inspector, 0, INSPECTORS - 1) && within(man, 0, MOST_MEN - 1)) {
                marks[inspector * MOST_MEN + man] = given;
            }
        }

        int compare(int one, int other, int men) {
            int both = 0;
            int sum = 0;
            for (int m = 0; m < Math.min(men, MOST_MEN); m++) {
                int mine = marks[one * MOST_MEN + m];
                int its = marks[other * MOST_MEN + m];
                if (mine != NONE && its != NONE) {
                    both++;
                    sum += mine - its;
                }
            }
            return both >= enough ? sum : HIDDEN;
        }
    }
}
