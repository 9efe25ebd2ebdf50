/** Promise 9: place. */
public final class PlaceTest {
    private static final int LAST_TIME = Made.LAST_TIME;
    private static final int FAR = Made.FAR;

    public static void main(String[] args) {
        refused();
        between();
        single();
        atTheEdges();
        ofTwenty();
        Check.end();
    }

    private static void refused() {
        DriftLog log = new DriftLog();
        for (int id : new int[] {-1, 4, Integer.MIN_VALUE, Integer.MAX_VALUE}) {
            Check.due("place(" + id + ", ..)", () -> log.place(id, -1, false, false), Check.INDEX);
        }
        Check.due("place when FREE", () -> log.place(0, -1, false, false), Check.STATE);
        Made.fill(log, 0, new int[][] {{5, 1, 1}, {8, 2, 2}});
        Check.due("place when OPEN", () -> log.place(0, 6, false, false), Check.STATE);
        log.seal(0, 0);
        for (int t : new int[] {4, 9, -1, 0, Integer.MIN_VALUE, LAST_TIME}) {
            Check.due("place(0, " + t + ", ..)", () -> log.place(0, t, false, false), Check.ARGUMENT);
            Check.due("place(0, " + t + ", .. second)", () -> log.place(0, t, true, true), Check.ARGUMENT);
        }
    }

    private static void between() {
        DriftLog log = Made.sealed(3, 0, new int[][] {{10, 0, 7}, {16, 9, -8}, {20, -1, -8}});
        String[] xs = {"0/1", "3/2", "3/1", "9/2", "6/1", "15/2", "9/1", "13/2", "4/1", "3/2", "-1/1"};
        String[] ys = {"7/1", "9/2", "2/1", "-1/2", "-3/1", "-11/2", "-8/1", "-8/1", "-8/1", "-8/1", "-8/1"};
        for (int t = 10; t <= 20; t++) {
            int each = t;
            Check.due("x at " + t, () -> Made.fraction(log, 3, each, false), xs[t - 10]);
            Check.due("y at " + t, () -> Made.fraction(log, 3, each, true), ys[t - 10]);
        }
        DriftLog zero = Made.sealed(0, 0, new int[][] {{0, -3, 3}, {6, 3, -3}});
        Check.due("0 is 0 / 1", () -> Made.fraction(zero, 0, 3, false), "0/1");
    }

    private static void single() {
        DriftLog log = Made.sealed(0, 9, new int[][] {{7, -4, 6}});
        Check.due("x of one sample", () -> Made.fraction(log, 0, 7, false), "-4/1");
        Check.due("y of one sample", () -> Made.fraction(log, 0, 7, true), "6/1");
        Check.due("before it", () -> log.place(0, 6, false, false), Check.ARGUMENT);
        Check.due("behind it", () -> log.place(0, 8, false, false), Check.ARGUMENT);
    }

    private static void atTheEdges() {
        int[][] samples = {{0, -FAR, FAR}, {LAST_TIME, FAR, -FAR}};
        DriftLog log = Made.sealed(0, 0, samples);
        for (int t : new int[] {0, 1, 2, 1 << 30, (1 << 30) - 1, LAST_TIME - 1, LAST_TIME, 1234567}) {
            Check.due("x at " + t, () -> Made.fraction(log, 0, t, false), Oracle.place(samples, t, 1));
            Check.due("y at " + t, () -> Made.fraction(log, 0, t, true), Oracle.place(samples, t, 2));
        }
    }

    private static void ofTwenty() {
        int[][] samples = new int[20][];
        for (int i = 0; i < 20; i++) {
            samples[i] = new int[] {3 * i + 1, i % 2, -i * i};
        }
        DriftLog log = Made.sealed(0, 0, samples);
        Check.due("all twenty are kept", () -> log.track(0, 1), 20);
        for (int t = 1; t <= 58; t++) {
            int each = t;
            Check.due("x of twenty at " + t, () -> Made.fraction(log, 0, each, false), Oracle.place(samples, t, 1));
            Check.due("y of twenty at " + t, () -> Made.fraction(log, 0, each, true), Oracle.place(samples, t, 2));
        }
        Check.due("behind twenty", () -> log.place(0, 59, false, false), Check.ARGUMENT);
        Check.due("before twenty", () -> log.place(0, 0, false, false), Check.ARGUMENT);
    }
}
