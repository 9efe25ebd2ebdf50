/** Promises 15 and 16, sentence by sentence, with what 'Terms' says of a FRAME and its SPANS: spans and span. */
public final class SpansTest {
    private static final int LAST_TIME = Made.LAST_TIME;
    private static final int FAR = Made.FAR;
    private static final int FRAME_FAR = Made.FRAME_FAR;
    private static final int[] NO_NUMBERS = {FRAME_FAR + 1, -FRAME_FAR - 1, Integer.MIN_VALUE, Integer.MIN_VALUE + 1, Integer.MAX_VALUE};

    public static void main(String[] args) {
        withinOneStretch();
        closedOnEachSide();
        asLongAsCanBe();
        singleTimes();
        singleSample();
        standing();
        bound();
        boundOnEachSide();
        inTheOrderOfTime();
        fractions();
        exactly();
        widestFrame();
        inPlaceOfThoseThatWere();
        spansNoTrack();
        spansNotSealed();
        frameNumbers();
        turnedFrames();
        span();
        spanNone();
        Check.end();
    }

    private static void finds(String what, DriftLog log, int[] frame, String want) {
        int count = want.isEmpty() ? 0 : want.split(" ").length;
        Check.due(what + ": spans", () -> log.spans(0, frame[0], frame[1], frame[2], frame[3]), count);
        Check.due(what, () -> Made.spans(log), want);
    }

    private static int[] frame(int x1, int y1, int x2, int y2) {
        return new int[] {x1, y1, x2, y2};
    }

    private static void withinOneStretch() {
        Check.sentence("SPANS: in which x of the motion is from x1 - BOUND to x2 + BOUND and y from y1 - BOUND to y2 + BOUND");
        DriftLog log = Made.sealed(0, 0, new int[][] {{10, 0, 0}, {20, 30, -30}});
        finds("x alone", log, frame(1, -100, 2, 100), "31/3..32/3");
        finds("y alone", log, frame(-100, -2, 100, -1), "31/3..32/3");
        finds("x then y", log, frame(3, -7, 100, 0), "11/1..37/3");
        finds("y then x", log, frame(-100, -100, 7, -3), "11/1..37/3");
        finds("from the beginning", log, frame(-5, -5, 5, 5), "10/1..35/3");
        finds("to the end", log, frame(25, -100, 100, 100), "55/3..20/1");
        finds("all", log, frame(0, -30, 30, 0), "10/1..20/1");
        finds("none, x and y apart", log, frame(3, -2, 9, 0), "");
        finds("none, beyond", log, frame(31, -100, 99, 100), "");
        finds("none, before", log, frame(-99, -100, -1, 100), "");
        finds("none, above", log, frame(-100, 1, 100, 9), "");
        finds("none, below", log, frame(-100, -99, 100, -31), "");
    }

    private static void closedOnEachSide() {
        Check.sentence("SPANS: all closed spans of times");
        DriftLog log = Made.sealed(0, 0, new int[][] {{10, 0, 0}, {20, 30, -30}});
        finds("x at its end", log, frame(30, -30, 40, 0), "20/1..20/1");
        finds("x at its beginning", log, frame(-9, -30, 0, 0), "10/1..10/1");
        finds("y at its end", log, frame(0, -40, 30, -30), "20/1..20/1");
        finds("y at its beginning", log, frame(0, 0, 30, 9), "10/1..10/1");
        finds("one x alone", log, frame(15, -30, 15, 0), "15/1..15/1");
        finds("one y alone", log, frame(0, -10, 30, -10), "40/3..40/3");
    }

    private static void asLongAsCanBe() {
        Check.sentence("SPANS: as long as can be");
        DriftLog log = Made.sealed(0, 0, new int[][] {{0, 0, 0}, {10, 10, 5}, {20, 10, -5}, {30, 0, 0}});
        finds("one span over all", log, frame(0, -5, 10, 5), "0/1..30/1");
        finds("one span over samples", log, frame(5, -5, 10, 5), "5/1..25/1");
        finds("a span that begins at a sample", log, frame(10, -9, 10, 9), "10/1..20/1");
        finds("a span that ends at a sample", log, frame(0, 0, 9, 4), "0/1..8/1 30/1..30/1");
        DriftLog edge = Made.sealed(0, 0, new int[][] {{0, 0, 0}, {10, 10, 0}, {20, 10, 5}, {30, 20, 5}});
        finds("along the edge between samples", edge, frame(0, 0, 10, 9), "0/1..20/1");
        DriftLog touch = Made.sealed(0, 0, new int[][] {{0, 0, 0}, {10, 10, 0}, {20, 0, 0}});
        finds("the edge is met at a sample", touch, frame(0, 0, 10, 0), "0/1..20/1");
        DriftLog still = Made.sealed(0, 0, Made.twenty());
        finds("one over twenty", still, frame(0, -361, 1, 0), "1/1..58/1");
    }

    private static void singleTimes() {
        Check.sentence("SPANS: (a single time is a span, too)");
        DriftLog log = Made.sealed(0, 0, new int[][] {{0, 0, 0}, {10, 10, 10}, {20, 0, 20}});
        finds("a top at a sample, once", log, frame(10, 0, 99, 99), "10/1..10/1");
        finds("the first time", log, frame(-5, -5, 0, 0), "0/1..0/1");
        finds("the last time", log, frame(-5, 20, 0, 25), "20/1..20/1");
        finds("a corner in passing", log, frame(-9, 4, 4, 99), "4/1..4/1 16/1..20/1");
        finds("a corner that is a fraction", Made.sealed(0, 0, new int[][] {{0, 0, 0}, {2, 3, -3}}), frame(1, -1, 9, 0), "2/3..2/3");
        finds("a corner that is just missed", Made.sealed(0, 0, new int[][] {{0, 0, 0}, {3, 3, -4}}), frame(1, -1, 9, 0), "");
    }

    private static void singleSample() {
        Check.sentence("MOTION: with one sample it is at that one, at its time alone");
        DriftLog log = Made.sealed(0, 0, new int[][] {{7, 3, -3}});
        finds("inside", log, frame(3, -3, 3, -3), "7/1..7/1");
        finds("x just before", log, frame(4, -9, 9, 9), "");
        finds("x just behind", log, frame(-9, -9, 2, 9), "");
        finds("y just before", log, frame(-9, -2, 9, 9), "");
        finds("y just behind", log, frame(-9, -9, 9, -4), "");
        finds("at time 0", Made.sealed(0, 0, new int[][] {{0, 0, 0}}), frame(0, 0, 0, 0), "0/1..0/1");
        finds("at the last time", Made.sealed(0, 0, new int[][] {{LAST_TIME, FAR, -FAR}}), frame(FAR, -FAR, FAR, -FAR), "2147483647/1..2147483647/1");
    }

    private static void standing() {
        Check.sentence("SPANS: where x or y of the motion stands");
        DriftLog log = Made.sealed(0, 0, new int[][] {{0, 5, 0}, {10, 5, 10}, {20, 5, 0}});
        finds("x stands inside", log, frame(5, 2, 5, 4), "2/1..4/1 16/1..18/1");
        finds("x stands just outside", log, frame(6, 2, 9, 4), "");
        finds("x stands just outside, before", log, frame(0, 2, 4, 4), "");
        DriftLog still = Made.sealed(0, 0, new int[][] {{4, 1, 1}, {9, 1, 1}});
        finds("it stands inside, at the edge", still, frame(0, 0, 1, 1), "4/1..9/1");
        finds("it stands inside, at the other edge", still, frame(1, 1, 2, 2), "4/1..9/1");
        finds("it stands outside", still, frame(2, 2, 3, 3), "");
        finds("y stands outside", still, frame(0, 2, 3, 3), "");
    }

    private static void bound() {
        Check.sentence("SPANS: x1 - BOUND to x2 + BOUND");
        DriftLog log = Made.sealed(0, 2, new int[][] {{0, 0, 0}, {100, 100, 0}});
        finds("wider by the bound", log, frame(10, 0, 20, 0), "8/1..22/1");
        log.again(0, 5);
        finds("the bound that grew", log, frame(10, 7, 20, 9), "3/1..27/1");
        log.again(0, 0);
        finds("the bound that grew by 0", log, frame(10, 7, 20, 9), "3/1..27/1");
        DriftLog read = Made.withBytes(2, 0, 0, 0, 100, 200, 1, 0);
        read.unpack(0, 3);
        finds("the bound of one that was unpacked", read, frame(10, 0, 20, 0), "7/1..23/1");
        DriftLog widest = Made.sealed(0, 65535, new int[][] {{0, 0, 0}, {100, 100, 0}});
        finds("the greatest bound, x just within", widest, frame(65635, 0, 70000, 0), "100/1..100/1");
        finds("the greatest bound, x just beyond", widest, frame(65636, 0, 70000, 0), "");
        finds("the greatest bound, from below", widest, frame(-70000, 0, -65535, 0), "0/1..0/1");
        finds("the greatest bound, just beyond below", widest, frame(-70000, 0, -65536, 0), "");
    }

    private static void boundOnEachSide() {
        Check.sentence("SPANS: y from y1 - BOUND to y2 + BOUND");
        DriftLog log = Made.sealed(0, 2, new int[][] {{0, 0, 0}, {100, 100, 0}});
        finds("y1 just within", log, frame(10, 2, 20, 9), "8/1..22/1");
        finds("y1 just beyond", log, frame(10, 3, 20, 9), "");
        finds("y2 just within", log, frame(10, -9, 20, -2), "8/1..22/1");
        finds("y2 just beyond", log, frame(10, -9, 20, -3), "");
        finds("x1 just within", log, frame(102, 0, 200, 0), "100/1..100/1");
        finds("x1 just beyond", log, frame(103, 0, 200, 0), "");
        finds("x2 just within", log, frame(-9, 0, -2, 0), "0/1..0/1");
        finds("x2 just beyond", log, frame(-9, 0, -3, 0), "");
    }

    private static void inTheOrderOfTime() {
        Check.sentence("SPANS: in the order of time");
        DriftLog log = Made.sealed(0, 0, new int[][] {{0, 0, 0}, {10, 10, 5}, {20, 10, -5}, {30, 0, 0}});
        finds("two spans", log, frame(0, 1, 100, 3), "2/1..6/1 12/1..14/1");
        finds("two spans, far apart", log, frame(1, -1, 9, 1), "1/1..2/1 28/1..29/1");
        int[][] samples = new int[20][];
        StringBuilder within = new StringBuilder();
        StringBuilder tops = new StringBuilder();
        for (int i = 0; i < 20; i++) {
            samples[i] = new int[] {i * 4, i % 2 == 0 ? 0 : 4, 0};
            within.append(i == 0 || i == 19 ? "" : " ").append(i == 19 ? "" : i * 4 + 1 + "/1.." + (i * 4 + 3) + "/1");
            tops.append(i % 2 == 0 ? "" : (i == 1 ? "" : " ") + i * 4 + "/1.." + i * 4 + "/1");
        }
        DriftLog most = Made.sealed(0, 0, samples);
        finds("nineteen spans, the most that can be", most, frame(1, 0, 3, 0), within.toString());
        finds("ten single times", most, frame(4, 0, 9, 0), tops.toString());
        finds("one over all twenty", most, frame(0, 0, 4, 0), "0/1..76/1");
    }

    private static void fractions() {
        Check.sentence("FRACTIONS: the second above 0, without a common divisor above 1 (0 is 0 / 1)");
        DriftLog up = Made.sealed(0, 0, new int[][] {{0, -6, 0}, {12, 12, 0}});
        finds("going up", up, frame(-4, 0, 2, 0), "4/3..16/3");
        finds("going up, whole", up, frame(-3, 0, 3, 0), "2/1..6/1");
        DriftLog down = Made.sealed(0, 0, new int[][] {{0, 6, 0}, {12, -12, 0}});
        finds("going down", down, frame(-2, 0, 4, 0), "4/3..16/3");
        finds("going down from time 0", down, frame(0, 0, 6, 0), "0/1..4/1");
        finds("y going down", Made.sealed(0, 0, new int[][] {{3, 0, 6}, {15, 0, -12}}), frame(0, -2, 0, 4), "13/3..25/3");
    }

    private static void exactly() {
        Check.sentence("MOTION: exactly");
        int[][] samples = {{0, -FAR, FAR}, {1, FAR, FAR - 1}, {LAST_TIME, -FAR, -FAR}};
        DriftLog log = Made.sealed(0, 0, samples);
        log.again(0, 65535);
        int[][] kept = Oracle.thin(samples, 65535);
        int[][] frames = {
            frame(-FAR, -FAR, -FAR, FAR), frame(FAR, -FRAME_FAR, FRAME_FAR, FRAME_FAR), frame(-1, -1, 1, 1),
            frame(8454143, -FRAME_FAR, FRAME_FAR, FRAME_FAR), frame(8454144, -FRAME_FAR, FRAME_FAR, FRAME_FAR),
            frame(-FRAME_FAR, -FRAME_FAR, -8454143, FRAME_FAR), frame(-FRAME_FAR, -FRAME_FAR, -8454144, FRAME_FAR),
            frame(FRAME_FAR, FRAME_FAR, FRAME_FAR, FRAME_FAR), frame(-FRAME_FAR, -FRAME_FAR, -FRAME_FAR, -FRAME_FAR),
            frame(-7, 8322000, 8322001, 8388607), frame(-8322001, -8322003, 8322005, 8322007),
        };
        for (int[] f : frames) {
            finds("frame " + f[0] + " " + f[1] + " " + f[2] + " " + f[3], log, f, Oracle.spans(kept, 65535, f));
        }
        DriftLog widest = Made.sealed(0, 0, new int[][] {{0, -FAR, FAR}, {LAST_TIME, FAR, -FAR}});
        // 2147483647 * 8388609 / 16777216, worked out by hand.
        finds("one off the middle", widest, frame(1, -FAR, FAR, FAR), "18014400648577023/16777216..2147483647/1");
        finds("the middle alone", widest, frame(0, 0, 0, 0), "2147483647/2..2147483647/2");
    }

    private static void widestFrame() {
        Check.sentence("FRAME: x1, y1, x2, y2 (each -16777216 .. 16777216)");
        DriftLog log = Made.sealed(0, 0, new int[][] {{3, 0, 0}, {10, 10, 0}});
        finds("the widest", log, frame(-FRAME_FAR, -FRAME_FAR, FRAME_FAR, FRAME_FAR), "3/1..10/1");
        finds("the least", log, frame(-FRAME_FAR, -FRAME_FAR, -FRAME_FAR, -FRAME_FAR), "");
        finds("the greatest", log, frame(FRAME_FAR, FRAME_FAR, FRAME_FAR, FRAME_FAR), "");
        DriftLog far = Made.sealed(0, 65535, new int[][] {{3, -FAR, -FAR}, {10, FAR, FAR}});
        finds("the widest with the greatest bound", far, frame(-FRAME_FAR, -FRAME_FAR, FRAME_FAR, FRAME_FAR), "3/1..10/1");
    }

    private static void inPlaceOfThoseThatWere() {
        Check.sentence("Promise 15: The SPANS of a SEALED track in a FRAME are found (in place of those that were): how many");
        DriftLog log = Made.mixed();
        Check.due("one in place of two", () -> log.spans(3, -4, 6, -4, 6), 1);
        Check.due("the one", () -> Made.spans(log), "7/1..7/1");
        Check.due("two in place of one", () -> log.spans(0, 0, 2, 100, 3), 2);
        Check.due("the two", () -> Made.spans(log), "2/1..8/1 11/1..14/1");
        Check.due("none in place of two", () -> log.spans(0, 100, 0, 200, 0), 0);
        Check.due("no span", () -> log.span(0, false, false), Check.INDEX);
        DriftLog stay = Made.mixed();
        stay.again(0, 60);
        stay.cut(0);
        stay.drop(0);
        Check.due("spans stay until others are found", () -> Made.spans(stay), "2/1..8/1 11/1..14/1");
        DriftLog same = Made.mixed();
        same.spans(0, 0, 0, 1, 1);
        DriftLog mixed = Made.mixed();
        Check.due("the track stays", () -> Made.track(same, 0) + Made.samples(same, 0), Made.track(mixed, 0) + Made.samples(mixed, 0));
        Check.due("bytes stay", () -> Made.bytes(same), Made.bytes(mixed));
    }

    private static void spansNoTrack() {
        Check.sentence("Promise 15: IndexOutOfBoundsException if there is no such track");
        for (int id : Made.NO_TRACKS) {
            Check.refused("spans(" + id + ", ..)", Made::mixed, log -> log.spans(id, 0, 0, 1, 1), Check.INDEX);
            Check.refused("spans(" + id + ", ..) turned", Made::mixed, log -> log.spans(id, 1, 1, 0, 0), Check.INDEX);
            Check.refused("spans(" + id + ", ..) with a wrong frame", Made::mixed, log -> log.spans(id, FRAME_FAR + 1, 0, 0, 0), Check.INDEX);
        }
    }

    private static void spansNotSealed() {
        Check.sentence("Promise 15: IllegalStateException if it is not SEALED");
        for (int id = 1; id < 3; id++) {
            int each = id;
            String state = id == 1 ? "OPEN" : "FREE";
            Check.refused("spans when " + state, Made::mixed, log -> log.spans(each, 0, 0, 9, 9), Check.STATE);
            Check.refused("spans when " + state + ", turned", Made::mixed, log -> log.spans(each, 1, 1, 0, 0), Check.STATE);
            Check.refused("spans when " + state + ", wrong frame", Made::mixed, log -> log.spans(each, FRAME_FAR + 1, 0, 0, 0), Check.STATE);
        }
    }

    private static void frameNumbers() {
        Check.sentence("Promise 15: IllegalArgumentException if a number of the frame is not as said");
        for (int far : NO_NUMBERS) {
            Check.refused("x1 = " + far, Made::mixed, log -> log.spans(0, far, 0, 0, 0), Check.ARGUMENT);
            Check.refused("y1 = " + far, Made::mixed, log -> log.spans(0, 0, far, 0, 0), Check.ARGUMENT);
            Check.refused("x2 = " + far, Made::mixed, log -> log.spans(0, 0, 0, far, 0), Check.ARGUMENT);
            Check.refused("y2 = " + far, Made::mixed, log -> log.spans(0, 0, 0, 0, far), Check.ARGUMENT);
            Check.refused("x1 = " + far + ", turned in y", Made::mixed, log -> log.spans(0, far, 1, 0, 0), Check.ARGUMENT);
            Check.refused("y2 = " + far + ", turned in x", Made::mixed, log -> log.spans(0, 1, 0, 0, far), Check.ARGUMENT);
            Check.refused("all = " + far, Made::mixed, log -> log.spans(0, far, far, far, far), Check.ARGUMENT);
        }
        for (int far : new int[] {FRAME_FAR, -FRAME_FAR}) {
            Check.due("x1 = " + far, () -> Made.mixed().spans(0, far, -9, FRAME_FAR, 9), far < 0 ? 1 : 0);
            Check.due("y1 = " + far, () -> Made.mixed().spans(0, -9, far, 99, FRAME_FAR), far < 0 ? 1 : 0);
            Check.due("x2 = " + far, () -> Made.mixed().spans(0, -FRAME_FAR, -9, far, 9), far < 0 ? 0 : 1);
            Check.due("y2 = " + far, () -> Made.mixed().spans(0, -9, -FRAME_FAR, 99, far), far < 0 ? 0 : 1);
        }
    }

    private static void turnedFrames() {
        Check.sentence("Promise 15: (x1 above x2 or y1 above y2 gives none)");
        DriftLog log = Made.sealed(0, 10, new int[][] {{0, 0, 0}, {100, 100, 0}});
        finds("x1 is x2", log, frame(20, 0, 20, 0), "10/1..30/1");
        finds("x1 above x2, though the bound is wide", log, frame(20, 0, 19, 0), "");
        finds("y1 is y2", log, frame(10, 1, 20, 1), "0/1..30/1");
        finds("y1 above y2, though the bound is wide", log, frame(10, 1, 20, 0), "");
        finds("a frame", log, frame(10, 0, 20, 0), "0/1..30/1");
        finds("both turned", log, frame(20, 1, 10, 0), "");
        finds("the widest, turned", log, frame(FRAME_FAR, FRAME_FAR, -FRAME_FAR, -FRAME_FAR), "");
        DriftLog one = Made.sealed(0, 65535, new int[][] {{7, 3, 3}});
        finds("one sample, x turned", one, frame(4, 3, 3, 3), "");
        finds("one sample, y turned", one, frame(3, 4, 3, 3), "");
    }

    private static void span() {
        Check.sentence("Promise 16: Span i: its beginning, or its end; the first, or the second number");
        DriftLog log = Made.sealed(0, 0, new int[][] {{10, 0, 0}, {20, 30, 0}, {30, 0, 0}});
        log.spans(0, 1, 0, 2, 0);
        Check.due("span 0", () -> log.span(0, false, false) + " " + log.span(0, false, true) + " " + log.span(0, true, false) + " " + log.span(0, true, true),
                "31 3 32 3");
        Check.due("span 1", () -> log.span(1, false, false) + " " + log.span(1, false, true) + " " + log.span(1, true, false) + " " + log.span(1, true, true),
                "88 3 89 3");
        Check.due("span 0 once more", () -> log.span(0, false, false), 31);
    }

    private static void spanNone() {
        Check.sentence("Promise 16: IndexOutOfBoundsException if there is none such");
        for (int i : new int[] {-1, 2, 3, 19, 20, 21, Integer.MIN_VALUE, Integer.MAX_VALUE}) {
            Check.refused("span(" + i + ", ..) of two", Made::mixed, log -> log.span(i, false, false), Check.INDEX);
            Check.refused("span(" + i + ", .. end, second) of two", Made::mixed, log -> log.span(i, true, true), Check.INDEX);
        }
        DriftLog none = Made.mixed();
        none.spans(0, 1, 0, 0, 0);
        Check.due("span(0, ..) when none were found", () -> none.span(0, false, false), Check.INDEX);
        none.spans(0, 0, 2, 100, 3);
        none.spans(3, -4, 6, -4, 6);
        Check.due("span(1, ..) when there were two, and one is left", () -> none.span(1, true, false), Check.INDEX);
        Check.due("span(0, ..) of a new object", () -> new DriftLog().span(0, true, true), Check.INDEX);
    }
}
