import java.util.ArrayDeque;
import java.util.ArrayList;
import java.util.Deque;
import java.util.List;

/** A CONSTABLE told plainly: a row of tasks still to do, and how many minutes the one at hand still takes. */
final class PlainMan {
    static final int FREE = 0;
    static final int BEAT = 1;
    static final int HOMEWARD = 2;
    static final int DRAWN = 3;
    static final int ILL = 4;

    /** A sort: g w p l as in a BEAT, s (stays till a minute), h (goes HOME). */
    record Task(char sort, int place, int amount, PlainRow row, int step) {
    }

    final int number;
    final int rank;
    final int years;
    final int home;
    final List<Integer> freed = new ArrayList<>();
    final Deque<Task> tasks = new ArrayDeque<>();
    private final PlainCounty county;
    int about = FREE;
    /** Where it is, or where it goes if it is on its way. */
    int place;
    boolean onItsWay;
    Task task;
    int left;
    int met;
    int missed;

    PlainMan(PlainCounty county, int number, int rank, int years, int home) {
        this.county = county;
        this.number = number;
        this.rank = rank;
        this.years = years;
        this.home = home;
        place = home;
    }

    void begin(List<String[]> steps, List<PlainRow> rows) {
        about = BEAT;
        int points = 0;
        for (int i = 0; i < steps.size(); i++) {
            String[] step = steps.get(i);
            char sort = step[0].charAt(0);
            int first = step.length > 1 ? Integer.parseInt(step[1]) : 0;
            PlainRow row = sort == 'p' ? rows.get(points++) : null;
            tasks.add(new Task(sort, first, sort == 'w' ? first : 0, row, i));
        }
        tasks.add(new Task('h', home, 0, null, -1));
        doWhatTakesNoTime();
    }

    void draw(int to, int till) {
        dropAll(3);
        about = DRAWN;
        if (onItsWay) {
            task = new Task('g', place, 0, null, -1);
        } else {
            task = null;
            left = 0;
        }
        tasks.add(new Task('g', to, 0, null, -1));
        tasks.add(new Task('s', to, till, null, -1));
        tasks.add(new Task('h', home, 0, null, -1));
        if (!onItsWay) {
            doWhatTakesNoTime();
        }
    }

    void fallIll() {
        dropAll(4);
        about = ILL;
        task = null;
        left = 0;
        place = home;
        onItsWay = false;
    }

    void becomeFree() {
        about = FREE;
        freed.add(county.now);
    }

    private void dropAll(int cause) {
        if (task != null && task.row() != null && task.row().outcome == 0) {
            miss(task.row(), cause);
        }
        for (Task other : tasks) {
            if (other.row() != null) {
                miss(other.row(), cause);
            }
        }
        tasks.clear();
    }

    private void miss(PlainRow row, int cause) {
        row.settle(2, cause, county.now);
        missed++;
    }

    /** A MINUTE more. */
    void minute() {
        if (task == null) {
            return;
        }
        left--;
        if (left > 0) {
            return;
        }
        boolean came = onItsWay;
        onItsWay = false;
        Task over = task;
        task = null;
        if (over.sort() == 'l') {
            county.look(this);
        }
        if (over.sort() == 'p' && came && comesToPoint(over)) {
            return;
        }
        if (over.sort() == 'h') {
            becomeFree();
            return;
        }
        doWhatTakesNoTime();
    }

    private void doWhatTakesNoTime() {
        while (task == null && !tasks.isEmpty()) {
            start(tasks.poll());
        }
    }

    private void start(Task next) {
        switch (next.sort()) {
            case 'w' -> take(next, next.amount());
            case 'l' -> take(next, 1);
            case 's' -> take(next, next.amount() - county.now);
            case 'h' -> {
                about = HOMEWARD;
                if (!sentTo(next)) {
                    place = home;
                    becomeFree();
                }
            }
            case 'p' -> {
                if (county.walk(place, next.place()) < 0) {
                    miss(next.row(), 2);
                } else if (!sentTo(next)) {
                    comesToPoint(next);
                }
            }
            default -> sentTo(next);
        }
    }

    private void take(Task next, int minutes) {
        if (minutes > 0) {
            task = next;
            left = minutes;
        }
    }

    private boolean sentTo(Task next) {
        int minutes = county.walk(place, next.place());
        if (minutes <= 0) {
            return false;
        }
        place = next.place();
        onItsWay = true;
        take(next, minutes);
        return true;
    }

    /** Whether it waits there. */
    private boolean comesToPoint(Task at) {
        if (county.now > at.row().due) {
            miss(at.row(), 1);
            return false;
        }
        at.row().settle(1, -1, county.now);
        met++;
        take(at, at.row().due - county.now);
        return task != null;
    }
}
