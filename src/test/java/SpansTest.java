/** Promises 15 and 16: spans and span. */
public final class SpansTest {
    private static final int LAST_TIME = Made.LAST_TIME;
    private static final int FAR = Made.FAR;
    private static final int FRAME_FAR = 16777216;

    public static void main(String[] args) {
        spansRefused();
        spanRefused();
        frameRange();
        withinOneStretch();
        acrossSamples();
        singleTimes();
        singleSample();
        bound();
        turnedFrames();
        standing();
        inPlaceOfThoseThatWere();
        mostSpans();
        atTheEdges();
        Check.end();
    }

    private static void spansRefused() {
        DriftLog log = new DriftLog();
        for (int id : new int[] {-1, 4, Integer.MIN_VALUE, Integer.MAX_VALUE}) {
            Check.due("spans(" + id + ", ..)", () -> log.spans(id, FRAME_FAR + 1, 0, 0, 0), Check.INDEX);
        }
        Check.due("spans when FREE", () -> log.spans(0, FRAME_FAR + 1, 0, 0, 0), Check.STATE);
        Made.fill(log, 0, new int[][] {{0, 0, 0}});
        Check.due("spans when OPEN", () -> log.spans(0, 0, 0, 0, 0), Check.STATE);
        Check.due("spans when OPEN, wrong frame", () -> log.spans(0, FRAME_FAR + 1, 0, 0, 0), Check.STATE);
    }

    private static void spanRefused() {
        DriftLog log = Made.sealed(0, 0, new int[][] {{0, 0, 0}, {10, 10, 0}});
        log.spans(0, 1, 0, 2, 0);
        for (int i : new int[] {-1, 1, 19, 20, Integer.MIN_VALUE, Integer.MAX_VALUE}) {
            Check.due("span(" + i + ", ..)", () -> log.span(i, false, false), Check.INDEX);
            Check.due("span(" + i + ", .. end, second)", () -> log.span(i, true, true), Check.INDEX);
        }
        Check.due("span(0, ..)", () -> Made.spans(log), "1/1..2/1");
    }

    private static void frameRange() {
        DriftLog log = Made.sealed(0, 0, new int[][] {{3, 0, 0}, {10, 10, 0}});
        log.spans(0, 0, 0, 10, 0);
        String before = Made.all(log);
        for (int far : new int[] {FRAME_FAR + 1, -FRAME_FAR - 1, Integer.MIN_VALUE, Integer.MAX_VALUE}) {
            Check.due("x1 = " + far, () -> log.spans(0, far, 0, 0, 0), Check.ARGUMENT);
            Check.due("y1 = " + far, () -> log.spans(0, 0, far, 0, 0), Check.ARGUMENT);
            Check.due("x2 = " + far, () -> log.spans(0, 0, 0, far, 0), Check.ARGUMENT);
            Check.due("y2 = " + far, () -> log.spans(0, 0, 0, 0, far), Check.ARGUMENT);
            Check.due("turned, x1 = " + far, () -> log.spans(0, far, 1, -1, 0), Check.ARGUMENT);
        }
        Check.due("spans after refused frames", () -> Made.all(log), before);
        Check.due("the widest frame", () -> log.spans(0, -FRAME_FAR, -FRAME_FAR, FRAME_FAR, FRAME_FAR), 1);
        Check.due("all of it", () -> Made.spans(log), "3/1..10/1");
    }

    private static void finds(String what, DriftLog log, int[] frame, String want) {
        int count = want.isEmpty() ? 0 : want.split(" ").length;
        Check.due(what + ": spans", () -> log.spans(0, frame[0], frame[1], frame[2], frame[3]), count);
        Check.due(what, () -> Made.spans(log), want);
    }

    private static int[] frame(int x1, int y1, int x2, int y2) {
        return new int[] {x1, y1, x2, y2};
    }

    private static void withinOneStretch() {
        DriftLog log = Made.sealed(0, 0, new int[][] {{10, 0, 0}, {20, 30, -30}});
        finds("x alone", log, frame(1, -100, 2, 100), "31/3..32/3");
        finds("y alone", log, frame(-100, -2, 100, -1), "31/3..32/3");
        finds("x then y", log, frame(3, -7, 100, 0), "11/1..37/3");
        finds("y then x", log, frame(-100, -100, 7, -3), "11/1..37/3");
        finds("from the beginning", log, frame(-5, -5, 5, 5), "10/1..35/3");
        finds("to the end", log, frame(25, -100, 100, 100), "55/3..20/1");
        finds("all", log, frame(0, -30, 30, 0), "10/1..20/1");
        finds("none, x and y apart", log, frame(3, -2, 9, 0), "");
        finds("none, beyond", log, frame(31, -100, 99, 100), "");
        finds("none, before", log, frame(-99, -100, -1, 100), "");
        finds("none, above", log, frame(-100, 1, 100, 9), "");
        finds("none, below", log, frame(-100, -99, 100, -31), "");
    }

    private static void acrossSamples() {
        DriftLog log = Made.sealed(0, 0, new int[][] {{0, 0, 0}, {10, 10, 5}, {20, 10, -5}, {30, 0, 0}});
        finds("one span over all", log, frame(0, -5, 10, 5), "0/1..30/1");
        finds("one span over samples", log, frame(5, -5, 10, 5), "5/1..25/1");
        finds("two spans", log, frame(0, 1, 100, 3), "2/1..6/1 12/1..14/1");
        finds("three spans", log, frame(1, -1, 9, 1), "1/1..2/1 28/1..29/1");
        finds("a span that begins at a sample", log, frame(10, -9, 10, 9), "10/1..20/1");
    }

    private static void singleTimes() {
        DriftLog log = Made.sealed(0, 0, new int[][] {{0, 0, 0}, {10, 10, 10}, {20, 0, 20}});
        finds("a top", log, frame(10, 0, 99, 99), "10/1..10/1");
        finds("the first time", log, frame(-5, -5, 0, 0), "0/1..0/1");
        finds("the last time", log, frame(-5, 20, 0, 25), "20/1..20/1");
        finds("a corner in passing", log, frame(-9, 4, 4, 99), "4/1..4/1 16/1..20/1");
        finds("a corner that is a fraction", Made.sealed(0, 0, new int[][] {{0, 0, 0}, {2, 3, -3}}), frame(1, -1, 9, 0), "2/3..2/3");
    }

    private static void singleSample() {
        DriftLog log = Made.sealed(0, 0, new int[][] {{7, 3, -3}});
        finds("one sample inside", log, frame(3, -3, 3, -3), "7/1..7/1");
        finds("one sample, x before", log, frame(4, -9, 9, 9), "");
        finds("one sample, x behind", log, frame(-9, -9, 2, 9), "");
        finds("one sample, y before", log, frame(-9, -2, 9, 9), "");
        finds("one sample, y behind", log, frame(-9, -9, 9, -4), "");
        DriftLog zero = Made.sealed(0, 0, new int[][] {{0, 0, 0}});
        finds("one sample at time 0", zero, frame(0, 0, 0, 0), "0/1..0/1");
    }

    private static void bound() {
        DriftLog log = Made.sealed(0, 2, new int[][] {{0, 0, 0}, {100, 100, 0}});
        finds("wider by the bound", log, frame(10, 0, 20, 0), "8/1..22/1");
        finds("y from below", log, frame(10, 2, 20, 9), "8/1..22/1");
        finds("y beyond the bound below", log, frame(10, 3, 20, 9), "");
        finds("y from above", log, frame(10, -9, 20, -2), "8/1..22/1");
        finds("y beyond the bound above", log, frame(10, -9, 20, -3), "");
        log.again(0, 5);
        finds("the bound that grew", log, frame(10, 7, 20, 9), "3/1..27/1");
    }

    private static void turnedFrames() {
        DriftLog log = Made.sealed(0, 10, new int[][] {{0, 0, 0}, {100, 100, 0}});
        log.spans(0, 0, 0, 5, 5);
        finds("x1 above x2, though the bound is wide", log, frame(20, 0, 19, 0), "");
        log.spans(0, 0, 0, 5, 5);
        finds("y1 above y2, though the bound is wide", log, frame(10, 1, 20, 0), "");
    }

    private static void standing() {
        DriftLog log = Made.sealed(0, 0, new int[][] {{0, 5, 0}, {10, 5, 10}, {20, 5, 0}});
        finds("x stands inside", log, frame(5, 2, 5, 4), "2/1..4/1 16/1..18/1");
        finds("x stands outside", log, frame(6, 2, 9, 4), "");
        finds("x stands outside, before", log, frame(0, 2, 4, 4), "");
        DriftLog still = Made.sealed(0, 0, new int[][] {{4, 1, 1}, {9, 1, 1}});
        finds("it stands inside", still, frame(0, 0, 1, 1), "4/1..9/1");
        finds("it stands outside", still, frame(2, 2, 3, 3), "");
    }

    private static void inPlaceOfThoseThatWere() {
        DriftLog log = Made.sealed(0, 0, new int[][] {{0, 0, 0}, {10, 10, 0}});
        Made.fill(log, 1, new int[][] {{50, 0, 0}, {60, 10, 0}});
        log.seal(1, 0);
        log.spans(0, 0, 0, 3, 0);
        log.spans(1, 0, 0, 3, 0);
        Check.due("the other track's spans", () -> Made.spans(log), "50/1..53/1");
        log.again(1, 9);
        log.cut(0);
        log.drop(1);
        Check.due("spans stay until others are found", () -> Made.spans(log), "50/1..53/1");
        log.spans(0, 11, 0, 20, 0);
        Check.due("none in place of those", () -> Made.spans(log), "");
    }

    private static void mostSpans() {
        int[][] samples = new int[20][];
        StringBuilder want = new StringBuilder();
        for (int i = 0; i < 20; i++) {
            samples[i] = new int[] {i * 4, i % 2 == 0 ? 0 : 4, 0};
            if (i < 19) {
                want.append(i == 0 ? "" : " ").append(i * 4 + 1).append("/1..").append(i * 4 + 3).append("/1");
            }
        }
        DriftLog log = Made.sealed(0, 0, samples);
        finds("nineteen spans", log, frame(1, 0, 3, 0), want.toString());
        finds("one over all twenty", log, frame(0, 0, 4, 0), "0/1..76/1");
    }

    private static void atTheEdges() {
        int[][] samples = {{0, -FAR, FAR}, {1, FAR, FAR - 1}, {LAST_TIME, -FAR, -FAR}};
        DriftLog log = Made.sealed(0, 0, samples);
        log.again(0, 65535);
        int[][] kept = Oracle.thin(samples, 65535);
        int[][] frames = {
            frame(-FAR, -FAR, -FAR, FAR), frame(FAR, -FRAME_FAR, FRAME_FAR, FRAME_FAR), frame(-1, -1, 1, 1),
            frame(8454143, -FRAME_FAR, FRAME_FAR, FRAME_FAR), frame(8454144, -FRAME_FAR, FRAME_FAR, FRAME_FAR),
            frame(-FRAME_FAR, -FRAME_FAR, -8454143, FRAME_FAR), frame(-FRAME_FAR, -FRAME_FAR, -8454144, FRAME_FAR),
            frame(FRAME_FAR, FRAME_FAR, FRAME_FAR, FRAME_FAR), frame(-FRAME_FAR, -FRAME_FAR, -FRAME_FAR, -FRAME_FAR),
            frame(-7, 8322000, 8322001, 8388607), frame(-8322001, -8322003, 8322005, 8322007),
        };
        for (int[] f : frames) {
            finds("frame " + f[0] + " " + f[1] + " " + f[2] + " " + f[3], log, f, Oracle.spans(kept, 65535, f));
        }
    }
}
