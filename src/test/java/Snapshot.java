import java.util.Arrays;

/** All that an object tells of now, in one row, to see that a call changed nothing, or one number only. */
final class Snapshot {
    private static final int COUNTS = 15;

    private final int[] row;

    private Snapshot(int[] row) {
        this.row = row;
    }

    /** At most 160 calls. */
    static Snapshot of(PackedCases x) {
        int things = x.count(0);
        int people = x.count(1);
        int[] row = new int[COUNTS + 1 + 3 * things + people * (12 + things)];
        int at = 0;
        for (int what = 0; what < COUNTS; what++) {
            row[at++] = x.count(what);
        }
        row[at++] = x.fault();
        for (int thing = 0; thing < things; thing++) {
            for (int what = 0; what < 3; what++) {
                row[at++] = x.thing(thing, what);
            }
        }
        for (int person = 0; person < people; person++) {
            for (int what = 0; what < 10; what++) {
                row[at++] = x.person(person, what);
            }
            row[at++] = x.near(person, 0);
            row[at++] = x.near(person, 1);
            for (int thing = 0; thing < things; thing++) {
                row[at++] = x.in(person, thing);
            }
        }
        return new Snapshot(row);
    }

    boolean isLike(Snapshot other) {
        return Arrays.equals(row, other.row);
    }

    /** The same, but with one of count()'s numbers more by so many. */
    Snapshot withCount(int what, int more) {
        int[] other = row.clone();
        other[what] += more;
        return new Snapshot(other);
    }
}
