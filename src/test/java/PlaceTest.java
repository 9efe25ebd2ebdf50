/** Promise 9, sentence by sentence, with what 'Terms' says of the MOTION and of FRACTIONS: place. */
public final class PlaceTest {
    private static final int LAST_TIME = Made.LAST_TIME;
    private static final int FAR = Made.FAR;

    public static void main(String[] args) {
        place();
        atTheSamples();
        betweenNeighbours();
        oneSample();
        exactly();
        withoutCommonDivisor();
        secondAboveZero();
        zero();
        ofTheKeptOnes();
        noTrack();
        notSealed();
        beforeTheFirst();
        behindTheLast();
        Check.end();
    }

    private static void place() {
        Check.sentence("Promise 9: Where the motion of a SEALED track is at time t, as a FRACTION: x, or y; its first or its second number");
        DriftLog log = Made.sealed(3, 0, new int[][] {{10, 0, 7}, {16, 9, -8}, {20, -1, -8}});
        String[] xs = {"0/1", "3/2", "3/1", "9/2", "6/1", "15/2", "9/1", "13/2", "4/1", "3/2", "-1/1"};
        String[] ys = {"7/1", "9/2", "2/1", "-1/2", "-3/1", "-11/2", "-8/1", "-8/1", "-8/1", "-8/1", "-8/1"};
        for (int t = 10; t <= 20; t++) {
            int each = t;
            Check.due("x at " + t, () -> Made.fraction(log, 3, each, false), xs[t - 10]);
            Check.due("y at " + t, () -> Made.fraction(log, 3, each, true), ys[t - 10]);
        }
        Check.due("the track stays", () -> Made.track(log, 3) + ": " + Made.samples(log, 3), "2 3 0: 10,0,7 16,9,-8 20,-1,-8");
    }

    private static void atTheSamples() {
        Check.sentence("MOTION: at each time between two of them that are next to one another");
        int[][] twenty = Made.twenty();
        DriftLog log = Made.sealed(0, 0, twenty);
        for (int[] s : twenty) {
            Check.due("x at sample " + s[0], () -> Made.fraction(log, 0, s[0], false), s[1] + "/1");
            Check.due("y at sample " + s[0], () -> Made.fraction(log, 0, s[0], true), s[2] + "/1");
        }
    }

    private static void betweenNeighbours() {
        Check.sentence("MOTION: between two of them that are next to one another, a and b, in a straight line");
        int[][] twenty = Made.twenty();
        DriftLog log = Made.sealed(0, 0, twenty);
        for (int t = 1; t <= 58; t++) {
            int each = t;
            Check.due("x of twenty at " + t, () -> Made.fraction(log, 0, each, false), Oracle.place(twenty, t, 1));
            Check.due("y of twenty at " + t, () -> Made.fraction(log, 0, each, true), Oracle.place(twenty, t, 2));
        }
    }

    private static void oneSample() {
        Check.sentence("MOTION: with one sample it is at that one, at its time alone");
        DriftLog log = Made.sealed(0, 9, new int[][] {{7, -4, 6}});
        Check.due("x", () -> Made.fraction(log, 0, 7, false), "-4/1");
        Check.due("y", () -> Made.fraction(log, 0, 7, true), "6/1");
        for (int t : new int[] {6, 8, 0, -1, LAST_TIME, Integer.MIN_VALUE}) {
            Check.due("x at " + t, () -> log.place(0, t, false, false), Check.ARGUMENT);
            Check.due("y at " + t + ", second", () -> log.place(0, t, true, true), Check.ARGUMENT);
        }
        DriftLog first = Made.sealed(1, 0, new int[][] {{0, FAR, -FAR}});
        Check.due("at time 0", () -> Made.fraction(first, 1, 0, false) + " " + Made.fraction(first, 1, 0, true), "8388608/1 -8388608/1");
        Check.due("behind time 0", () -> first.place(1, 1, false, false), Check.ARGUMENT);
        Check.due("before time 0", () -> first.place(1, -1, false, false), Check.ARGUMENT);
        DriftLog last = Made.sealed(1, 0, new int[][] {{LAST_TIME, 1, 2}});
        Check.due("at the last time", () -> Made.fraction(last, 1, LAST_TIME, false), "1/1");
        Check.due("before the last time", () -> last.place(1, LAST_TIME - 1, false, false), Check.ARGUMENT);
        Check.due("the least time", () -> last.place(1, Integer.MIN_VALUE, false, false), Check.ARGUMENT);
    }

    private static void exactly() {
        Check.sentence("MOTION: x is a.x + (b.x - a.x) * (t - a.t) / (b.t - a.t), exactly; y likewise");
        int[][] samples = {{0, -FAR, FAR}, {LAST_TIME, FAR, -FAR}};
        DriftLog log = Made.sealed(0, 0, samples);
        // -8388608 * 2147483647 + 16777216 is -2 to the 54, and 2 to the 23 and to the 24 more.
        Check.due("x at 1", () -> Made.fraction(log, 0, 1, false), "-18014398484316160/2147483647");
        Check.due("y at 1", () -> Made.fraction(log, 0, 1, true), "18014398484316160/2147483647");
        for (int t : new int[] {0, 1, 2, 1 << 30, (1 << 30) - 1, LAST_TIME - 1, LAST_TIME, 1234567}) {
            Check.due("x at " + t, () -> Made.fraction(log, 0, t, false), Oracle.place(samples, t, 1));
            Check.due("y at " + t, () -> Made.fraction(log, 0, t, true), Oracle.place(samples, t, 2));
        }
        int[][] late = {{LAST_TIME - 3, FAR, -FAR}, {LAST_TIME, FAR - 1, -FAR + 2}};
        DriftLog end = Made.sealed(2, 0, late);
        Check.due("x near the end", () -> Made.fraction(end, 2, LAST_TIME - 1, false), "25165822/3");
        Check.due("y near the end", () -> Made.fraction(end, 2, LAST_TIME - 1, true), "-25165820/3");
    }

    private static void withoutCommonDivisor() {
        Check.sentence("FRACTIONS: without a common divisor above 1");
        DriftLog log = Made.sealed(0, 0, new int[][] {{0, 0, 0}, {12, 6, -8}});
        String[] xs = {"0/1", "1/2", "1/1", "3/2", "2/1", "5/2", "3/1", "7/2", "4/1", "9/2", "5/1", "11/2", "6/1"};
        String[] ys = {"0/1", "-2/3", "-4/3", "-2/1", "-8/3", "-10/3", "-4/1", "-14/3", "-16/3", "-6/1", "-20/3", "-22/3", "-8/1"};
        for (int t = 0; t <= 12; t++) {
            int each = t;
            Check.due("x at " + t, () -> Made.fraction(log, 0, each, false), xs[t]);
            Check.due("y at " + t, () -> Made.fraction(log, 0, each, true), ys[t]);
        }
    }

    private static void secondAboveZero() {
        Check.sentence("FRACTIONS: the second above 0");
        DriftLog log = Made.sealed(0, 0, new int[][] {{0, -1, 1}, {4, 0, -2}});
        Check.due("x below 0, going up", () -> Made.fraction(log, 0, 1, false), "-3/4");
        Check.due("y above 0, going down", () -> Made.fraction(log, 0, 1, true), "1/4");
        Check.due("y below 0, going down", () -> Made.fraction(log, 0, 3, true), "-5/4");
    }

    private static void zero() {
        Check.sentence("FRACTIONS: 0 is 0 / 1");
        DriftLog log = Made.sealed(0, 0, new int[][] {{0, -3, 3}, {6, 3, -3}});
        Check.due("x between", () -> Made.fraction(log, 0, 3, false), "0/1");
        Check.due("y between", () -> Made.fraction(log, 0, 3, true), "0/1");
        DriftLog still = Made.sealed(0, 0, new int[][] {{0, 0, 0}, {6, 0, 0}});
        Check.due("x where it stands", () -> Made.fraction(still, 0, 5, false), "0/1");
        Check.due("y at a sample", () -> Made.fraction(still, 0, 6, true), "0/1");
    }

    private static void ofTheKeptOnes() {
        Check.sentence("Promise 9: the motion of a SEALED track");
        DriftLog log = Made.sealed(0, 5, new int[][] {{0, 0, 0}, {1, 5, 5}, {2, 0, 0}});
        Check.due("at the time of a dropped sample", () -> Made.fraction(log, 0, 1, false) + " " + Made.fraction(log, 0, 1, true), "0/1 0/1");
        DriftLog read = Made.withBytes(2, 5, 2, 4, 2, 1, 6);
        read.unpack(1, 65535);
        Check.due("of one that was unpacked", () -> Made.fraction(read, 1, 6, false) + " " + Made.fraction(read, 1, 6, true), "1/2 7/2");
    }

    private static void noTrack() {
        Check.sentence("Promise 9: IndexOutOfBoundsException if there is no such track");
        for (int id : Made.NO_TRACKS) {
            Check.refused("place(" + id + ", 0, ..)", Made::mixed, log -> log.place(id, 0, false, false), Check.INDEX);
            Check.refused("place(" + id + ", -1, ..)", Made::mixed, log -> log.place(id, -1, true, true), Check.INDEX);
        }
    }

    private static void notSealed() {
        Check.sentence("Promise 9: IllegalStateException if it is not SEALED");
        for (int t : new int[] {5, 0, -1, 99}) {
            Check.refused("place(2, " + t + ", ..) when FREE", Made::mixed, log -> log.place(2, t, false, false), Check.STATE);
            Check.refused("place(1, " + t + ", ..) when OPEN", Made::mixed, log -> log.place(1, t, true, true), Check.STATE);
        }
        DriftLog dropped = Made.mixed();
        dropped.drop(0);
        Check.due("place when dropped", () -> dropped.place(0, 5, false, false), Check.STATE);
    }

    private static DriftLog from5To8() {
        return Made.sealed(0, 2, new int[][] {{5, 1, 1}, {8, 2, 2}});
    }

    private static void beforeTheFirst() {
        Check.sentence("Promise 9: IllegalArgumentException if t is before its first .. time");
        for (int t : new int[] {4, 3, 0, -1, -5, Integer.MIN_VALUE}) {
            Check.refused("place(0, " + t + ", ..)", PlaceTest::from5To8, log -> log.place(0, t, false, false), Check.ARGUMENT);
            Check.refused("place(0, " + t + ", .. y, second)", PlaceTest::from5To8, log -> log.place(0, t, true, true), Check.ARGUMENT);
        }
        Check.due("at the first time", () -> Made.fraction(from5To8(), 0, 5, false), "1/1");
        Check.refused("before time 0", Made::mixed, log -> log.place(0, -1, false, false), Check.ARGUMENT);
        Check.due("at time 0", () -> Made.fraction(Made.mixed(), 0, 0, true), "0/1");
    }

    private static void behindTheLast() {
        Check.sentence("Promise 9: IllegalArgumentException if t is .. behind its last time");
        for (int t : new int[] {9, 10, LAST_TIME}) {
            Check.refused("place(0, " + t + ", ..)", PlaceTest::from5To8, log -> log.place(0, t, false, false), Check.ARGUMENT);
            Check.refused("place(0, " + t + ", .. y, second)", PlaceTest::from5To8, log -> log.place(0, t, true, true), Check.ARGUMENT);
        }
        Check.due("at the last time", () -> Made.fraction(from5To8(), 0, 8, false), "2/1");
        DriftLog twenty = Made.sealed(0, 0, Made.twenty());
        Check.due("behind twenty", () -> twenty.place(0, 59, false, false), Check.ARGUMENT);
        Check.due("at the last of twenty", () -> Made.fraction(twenty, 0, 58, true), "-361/1");
        Check.due("behind those that seal kept", () -> Made.sealed(0, 65535, Made.twenty()).place(0, 59, false, false), Check.ARGUMENT);
    }
}
