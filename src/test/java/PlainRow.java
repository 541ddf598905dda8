/** A ROW of POINTS told plainly. */
final class PlainRow {
    final int man;
    final int place;
    final int due;
    final int begun;
    int outcome;
    int settled;
    int cause;

    PlainRow(int man, int place, int due, int begun) {
        this.man = man;
        this.place = place;
        this.due = due;
        this.begun = begun;
    }

    void settle(int what, int why, int minute) {
        outcome = what;
        cause = why;
        settled = minute;
    }
}
