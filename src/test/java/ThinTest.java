/** Promises 4 and 5, sentence by sentence, with what 'Terms' says of THIN and E: seal and again. */
public final class ThinTest {
    private static final int LAST_TIME = Made.LAST_TIME;
    private static final int FAR = Made.FAR;
    private static final int HALF_TIME = 1 << 30;

    public static void main(String[] args) {
        firstAndLast();
        withinE();
        withinEOnEachAxis();
        eachDroppedOne();
        atItsTime();
        greatestE();
        exactly();
        asFewAsCanBe();
        leastPlaces();
        seal();
        sealNoTrack();
        sealNotOpen();
        sealWithoutSample();
        sealE();
        again();
        againWithEAlone();
        againOfWhatIsKept();
        againNoTrack();
        againNotSealed();
        againBelowZero();
        againBound();
        Check.end();
    }

    private static void thins(String what, int e, int[][] samples, String want) {
        DriftLog log = Made.open(0, samples);
        int count = want.split(" ").length;
        Check.due(what + ": seal", () -> log.seal(0, e), count);
        Check.due(what + ": kept", () -> Made.samples(log, 0), want);
        DriftLog twice = Made.open(1, samples);
        twice.seal(1, 0);
        // What e 0 drops is on the motion exactly, but it may have been a place that e would keep.
        int[][] exact = Oracle.thin(samples, 0);
        Check.due(what + ": again", () -> twice.again(1, e), Oracle.thin(exact, e).length);
        Check.due(what + ": kept by again", () -> Made.samples(twice, 1), Oracle.told(Oracle.thin(exact, e)));
    }

    private static int[][] alongX(int... xs) {
        int[][] samples = new int[xs.length][];
        for (int i = 0; i < xs.length; i++) {
            samples[i] = new int[] {i, xs[i], 0};
        }
        return samples;
    }

    private static void firstAndLast() {
        Check.sentence("THIN: keep some of its samples, the first and the last among them");
        thins("one sample", 65535, new int[][] {{5, 6, 7}}, "5,6,7");
        thins("two samples at one place", 65535, new int[][] {{5, 6, 7}, {6, 6, 7}}, "5,6,7 6,6,7");
        thins("three samples at one place", 65535, new int[][] {{5, 6, 7}, {6, 6, 7}, {7, 6, 7}}, "5,6,7 7,6,7");
        thins("twenty samples, all near", 65535, Made.twenty(), "1,0,0 58,1,-361");
        thins("twenty samples, none to be dropped", 0, Made.twenty(), Oracle.told(Made.twenty()));
        thins("the last far off", 65535, alongX(0, 0, 0, FAR), "0,0,0 2,0,0 3,8388608,0");
        thins("the first far off", 65535, alongX(FAR, 0, 0, 0), "0,8388608,0 1,0,0 3,0,0");
    }

    private static void withinE() {
        Check.sentence("THIN: each dropped one must differ .. by E at most from the motion");
        thins("just within, up", 5, alongX(0, 5, 0), "0,0,0 2,0,0");
        thins("just beyond, up", 5, alongX(0, 6, 0), "0,0,0 1,6,0 2,0,0");
        thins("just within, down", 5, alongX(0, -5, 0), "0,0,0 2,0,0");
        thins("just beyond, down", 5, alongX(0, -6, 0), "0,0,0 1,-6,0 2,0,0");
        thins("half beyond, down", 5, alongX(0, -5, 1), "0,0,0 1,-5,0 2,1,0");
        thins("half beyond, up", 5, alongX(0, 5, -1), "0,0,0 1,5,0 2,-1,0");
        thins("half within, up", 5, alongX(0, 5, 1), "0,0,0 2,1,0");
        thins("half within, down", 5, alongX(0, -5, -1), "0,0,0 2,-1,0");
        thins("e 0 on the line", 0, new int[][] {{0, 0, 0}, {1, 3, -3}, {3, 9, -9}}, "0,0,0 3,9,-9");
        thins("e 0, a third off", 0, new int[][] {{0, 0, 0}, {1, 3, -3}, {3, 10, -9}}, "0,0,0 1,3,-3 3,10,-9");
        thins("e 0, one off", 0, alongX(0, 1, 0), "0,0,0 1,1,0 2,0,0");
        thins("e 0 where it stands", 0, alongX(4, 4, 4, 4), "0,4,0 3,4,0");
    }

    private static void withinEOnEachAxis() {
        Check.sentence("THIN: each dropped one must differ, in x and in y, by E at most");
        thins("y just within, up", 5, new int[][] {{0, 0, 0}, {1, 0, 5}, {2, 0, 0}}, "0,0,0 2,0,0");
        thins("y just beyond, up", 5, new int[][] {{0, 0, 0}, {1, 0, 6}, {2, 0, 0}}, "0,0,0 1,0,6 2,0,0");
        thins("y just within, down", 5, new int[][] {{0, 0, 0}, {1, 0, -5}, {2, 0, 0}}, "0,0,0 2,0,0");
        thins("y just beyond, down", 5, new int[][] {{0, 0, 0}, {1, 0, -6}, {2, 0, 0}}, "0,0,0 1,0,-6 2,0,0");
        thins("both within, farther than e in all", 5, new int[][] {{0, 0, 0}, {1, 5, -5}, {2, 0, 0}}, "0,0,0 2,0,0");
        thins("x within, y beyond", 5, new int[][] {{0, 0, 0}, {1, 5, -6}, {2, 0, 0}}, "0,0,0 1,5,-6 2,0,0");
        thins("x beyond, y within", 5, new int[][] {{0, 0, 0}, {1, 6, -5}, {2, 0, 0}}, "0,0,0 1,6,-5 2,0,0");
    }

    private static void eachDroppedOne() {
        Check.sentence("THIN: each dropped one");
        thins("the first between is beyond", 1, alongX(0, 2, 0, 0, 0), "0,0,0 1,2,0 2,0,0 4,0,0");
        thins("the middle one is beyond", 1, alongX(0, 0, 9, 0, 0), "0,0,0 1,0,0 2,9,0 3,0,0 4,0,0");
        thins("the last between is beyond", 1, alongX(0, 0, 0, 2, 0), "0,0,0 1,0,0 3,2,0 4,0,0");
    }

    private static void atItsTime() {
        Check.sentence("THIN: from the motion of those that are kept, at its time");
        thins("on the line in space, not in time", 5, new int[][] {{0, 0, 0}, {1, 50, 0}, {10, 100, 0}}, "0,0,0 1,50,0 10,100,0");
        thins("at its own time", 5, new int[][] {{0, 0, 0}, {1, 15, 0}, {10, 100, 0}}, "0,0,0 10,100,0");
        thins("just beyond at its own time", 5, new int[][] {{0, 0, 0}, {1, 16, 0}, {10, 100, 0}}, "0,0,0 1,16,0 10,100,0");
    }

    private static void greatestE() {
        Check.sentence("THIN a row with E, 0 .. 65535");
        thins("the greatest e, just within", 65535, new int[][] {{0, 0, 0}, {HALF_TIME, 65535, -65535}, {LAST_TIME, 0, 0}},
                "0,0,0 2147483647,0,0");
        thins("the greatest e, x just beyond", 65535, new int[][] {{0, 0, 0}, {HALF_TIME, -65536, 65535}, {LAST_TIME, 0, 0}},
                "0,0,0 1073741824,-65536,65535 2147483647,0,0");
        thins("the greatest e, y just beyond", 65535, new int[][] {{0, 0, 0}, {HALF_TIME, 65535, -65536}, {LAST_TIME, 0, 0}},
                "0,0,0 1073741824,65535,-65536 2147483647,0,0");
    }

    private static void exactly() {
        Check.sentence("MOTION: x is a.x + (b.x - a.x) * (t - a.t) / (b.t - a.t), exactly");
        // At half the last time, rounded up, the motion from -FAR to FAR is just above 0.
        thins("a tiny part within", 3, new int[][] {{0, -FAR, 0}, {HALF_TIME, 3, 0}, {LAST_TIME, FAR, 0}}, "0,-8388608,0 2147483647,8388608,0");
        thins("a tiny part beyond", 3, new int[][] {{0, -FAR, 0}, {HALF_TIME, -3, 0}, {LAST_TIME, FAR, 0}},
                "0,-8388608,0 1073741824,-3,0 2147483647,8388608,0");
        thins("y, a tiny part within", 3, new int[][] {{0, 0, FAR}, {HALF_TIME, 0, -3}, {LAST_TIME, 0, -FAR}}, "0,0,8388608 2147483647,0,-8388608");
        thins("y, a tiny part beyond", 3, new int[][] {{0, 0, FAR}, {HALF_TIME, 0, 3}, {LAST_TIME, 0, -FAR}},
                "0,0,8388608 1073741824,0,3 2147483647,0,-8388608");
        thins("the widest swing", 65535, new int[][] {{0, -FAR, FAR}, {HALF_TIME, FAR, -FAR}, {LAST_TIME, -FAR, FAR}},
                "0,-8388608,8388608 1073741824,8388608,-8388608 2147483647,-8388608,8388608");
        thins("the widest swing near the end", 65535, new int[][] {{0, -FAR, FAR}, {LAST_TIME - 1, -FAR, FAR}, {LAST_TIME, FAR, -FAR}},
                "0,-8388608,8388608 2147483646,-8388608,8388608 2147483647,8388608,-8388608");
    }

    private static void asFewAsCanBe() {
        Check.sentence("THIN: The row that is kept has as few samples as can be");
        // The farthest step from place 0 is to place 2, but from there no step goes to the end.
        thins("the farthest step is too far", 1, alongX(5, 6, 5, 7, 6), "0,5,0 1,6,0 4,6,0");
        int[][] zigzag = {{0, 0, 0}, {1, 4, 0}, {2, 0, 4}, {3, 4, 0}, {4, 0, 4}, {5, 9, 9}, {6, 0, 0}};
        for (int e = 0; e < 10; e++) {
            thins("zigzag with " + e, e, zigzag, Oracle.told(Oracle.thin(zigzag, e)));
        }
        int[][] twenty = Made.twenty();
        for (int e = 1; e < 100; e += 7) {
            thins("twenty with " + e, e, twenty, Oracle.told(Oracle.thin(twenty, e)));
        }
    }

    private static void leastPlaces() {
        Check.sentence("THIN: of all such rows it is the one whose places in the row (0, 1, ..) are least, compared from the front");
        thins("the lesser of two", 3, alongX(0, 6, 6, 0), "0,0,0 1,6,0 3,0,0");
        // 0 1 4 5 and 0 2 3 5 would both do, and nothing else of four: compared from the back the other were less.
        thins("from the front", 1, alongX(1, 1, 2, 6, 7, 8), "0,1,0 1,1,0 4,7,0 5,8,0");
        thins("from the front, down", 3, alongX(9, 3, 2, 9, 9, 6), "0,9,0 1,3,0 4,9,0 5,6,0");
        int[][] flat = alongX(0, 0, 1, 1, 0, 0, 5, 5);
        thins("flat", 1, flat, Oracle.told(Oracle.thin(flat, 1)));
    }

    private static void seal() {
        Check.sentence("Promise 4: An OPEN track is THINNED with e and is SEALED, its BOUND being e: how many samples it has");
        DriftLog log = Made.mixed();
        Check.due("seal(1, 12)", () -> log.seal(1, 12), 2);
        Check.due("track 1", () -> Made.track(log, 1) + ": " + Made.samples(log, 1), "2 2 12: 5,5,5 6,7,8");
        Check.due("the others stay", () -> Made.track(log, 0) + ", " + Made.track(log, 2) + ", " + Made.track(log, 3), "2 4 1, 0 0 -1, 2 1 65535");
        Check.due("bytes and spans stay", () -> Made.bytes(log) + "; " + Made.spans(log), Made.bytes(Made.mixed()) + "; 2/1..8/1 11/1..14/1");
        DriftLog one = Made.open(0, new int[][] {{5, 6, 7}});
        Check.due("seal of one", () -> one.seal(0, 0), 1);
        Check.due("the one", () -> Made.track(one, 0) + ": " + Made.samples(one, 0), "2 1 0: 5,6,7");
        Check.due("seal of twenty", () -> Made.open(3, Made.twenty()).seal(3, 0), 20);
    }

    private static void sealNoTrack() {
        Check.sentence("Promise 4: IndexOutOfBoundsException if there is no such track");
        for (int id : Made.NO_TRACKS) {
            Check.refused("seal(" + id + ", 0)", Made::mixed, log -> log.seal(id, 0), Check.INDEX);
            Check.refused("seal(" + id + ", -1)", Made::mixed, log -> log.seal(id, -1), Check.INDEX);
        }
    }

    private static void sealNotOpen() {
        Check.sentence("Promise 4: IllegalStateException if it is not OPEN");
        for (int e : new int[] {0, 5, -1, 65536}) {
            Check.refused("seal(2, " + e + ") when FREE", Made::mixed, log -> log.seal(2, e), Check.STATE);
            Check.refused("seal(0, " + e + ") when SEALED", Made::mixed, log -> log.seal(0, e), Check.STATE);
        }
    }

    private static void sealWithoutSample() {
        Check.sentence("Promise 4: IllegalStateException if it .. has no sample");
        for (int e : new int[] {0, 65535, -1, 65536}) {
            Check.refused("seal(2, " + e + ") without samples", ThinTest::openBesideOthers, log -> log.seal(2, e), Check.STATE);
        }
        DriftLog log = openBesideOthers();
        log.add(2, 0, 0, 0);
        Check.due("seal with one sample", () -> log.seal(2, 0), 1);
    }

    private static DriftLog openBesideOthers() {
        DriftLog log = Made.mixed();
        log.open(2);
        return log;
    }

    private static void sealE() {
        Check.sentence("Promise 4: IllegalArgumentException if e is not as said");
        for (int e : new int[] {-1, 65536, 65537, 131071, Integer.MIN_VALUE, Integer.MAX_VALUE}) {
            Check.refused("seal(1, " + e + ")", Made::mixed, log -> log.seal(1, e), Check.ARGUMENT);
        }
        for (int e : new int[] {0, 1, 65534, 65535}) {
            DriftLog log = Made.mixed();
            Check.due("seal(1, " + e + ")", () -> log.seal(1, e), 2);
            Check.due("the bound", () -> log.track(1, 2), e);
        }
    }

    private static void again() {
        Check.sentence("Promise 5: A SEALED track is THINNED with e once more, and its BOUND grows by e: how many samples it has");
        DriftLog log = Made.sealed(0, 10, alongX(0, 100, 0));
        Check.due("again with too little", () -> log.again(0, 99), 3);
        Check.due("track 0 then", () -> Made.track(log, 0), "2 3 109");
        Check.due("again with enough", () -> log.again(0, 100), 2);
        Check.due("track 0 at last", () -> Made.track(log, 0) + ": " + Made.samples(log, 0), "2 2 209: 0,0,0 2,0,0");
        DriftLog one = Made.sealed(0, 0, new int[][] {{5, 6, 7}});
        Check.due("again of one", () -> one.again(0, 5), 1);
        Check.due("the one", () -> Made.track(one, 0) + ": " + Made.samples(one, 0), "2 1 5: 5,6,7");
        DriftLog read = Made.withBytes(3, 0, 0, 0, 1, 2, 2, 1, 2, 2);
        read.unpack(2, 7);
        Check.due("again with 0 of a line that was unpacked", () -> read.again(2, 0), 2);
        Check.due("its bound and samples", () -> Made.track(read, 2) + ": " + Made.samples(read, 2), "2 2 7: 0,0,0 2,2,2");
    }

    private static void againWithEAlone() {
        Check.sentence("Promise 5: THINNED with e");
        DriftLog log = Made.sealed(0, 60, alongX(0, 100, 0));
        Check.due("e is too little, though the bound is enough", () -> log.again(0, 60), 3);
        Check.due("once more", () -> log.again(0, 60), 3);
        Check.due("e 0, though the bound is enough", () -> log.again(0, 0), 3);
        Check.due("the bound", () -> log.track(0, 2), 180);
    }

    private static void againOfWhatIsKept() {
        Check.sentence("Promise 5: once more");
        DriftLog log = Made.sealed(1, 2, alongX(0, 5, 6, 3, 0));
        Check.due("kept at first", () -> Made.samples(log, 1), "0,0,0 2,6,0 4,0,0");
        Check.due("again(1, 5)", () -> log.again(1, 5), 3);
        Check.due("again(1, 6)", () -> log.again(1, 6), 2);
        Check.due("kept then", () -> Made.samples(log, 1), "0,0,0 4,0,0");
        Check.due("the bound is the sum", () -> log.track(1, 2), 13);
        // Those that seal drops are 7 off the motion that is kept at last: they are not asked any more.
        DriftLog far = Made.sealed(0, 4, alongX(0, 7, 6, 7, 0));
        Check.due("two are dropped", () -> Made.samples(far, 0), "0,0,0 2,6,0 4,0,0");
        Check.due("again(0, 6)", () -> far.again(0, 6), 2);
    }

    private static void againNoTrack() {
        Check.sentence("Promise 5: IndexOutOfBoundsException if there is no such track");
        for (int id : Made.NO_TRACKS) {
            Check.refused("again(" + id + ", 0)", Made::mixed, log -> log.again(id, 0), Check.INDEX);
            Check.refused("again(" + id + ", -1)", Made::mixed, log -> log.again(id, -1), Check.INDEX);
        }
    }

    private static void againNotSealed() {
        Check.sentence("Promise 5: IllegalStateException if it is not SEALED");
        for (int e : new int[] {0, 5, -1, 65536}) {
            Check.refused("again(2, " + e + ") when FREE", Made::mixed, log -> log.again(2, e), Check.STATE);
            Check.refused("again(1, " + e + ") when OPEN", Made::mixed, log -> log.again(1, e), Check.STATE);
        }
    }

    private static void againBelowZero() {
        Check.sentence("Promise 5: IllegalArgumentException if e is below 0");
        for (int e : new int[] {-1, -2, -65535, -65536, Integer.MIN_VALUE, Integer.MIN_VALUE + 1}) {
            Check.refused("again(0, " + e + ")", Made::mixed, log -> log.again(0, e), Check.ARGUMENT);
            Check.refused("again(3, " + e + ") at the greatest bound", Made::mixed, log -> log.again(3, e), Check.ARGUMENT);
        }
        Check.due("again(0, 0)", () -> Made.mixed().again(0, 0), 4);
    }

    private static void againBound() {
        Check.sentence("Promise 5: IllegalArgumentException if .. the BOUND would be above 65535");
        // The last ones wrap around to a sum that is below 0.
        for (int e : new int[] {65535, 65536, 131070, Integer.MAX_VALUE - 1, Integer.MAX_VALUE}) {
            Check.refused("again(0, " + e + ") at the bound 1", Made::mixed, log -> log.again(0, e), Check.ARGUMENT);
        }
        for (int e : new int[] {1, 65535, 65536, Integer.MAX_VALUE}) {
            Check.refused("again(3, " + e + ") at the greatest bound", Made::mixed, log -> log.again(3, e), Check.ARGUMENT);
        }
        DriftLog log = Made.mixed();
        Check.due("again(0, 65534) at the bound 1", () -> log.again(0, 65534), 2);
        Check.due("the greatest bound", () -> Made.track(log, 0), "2 2 65535");
        Check.due("again(0, 0) at the greatest bound", () -> log.again(0, 0), 2);
        Check.due("again(3, 0) at the greatest bound", () -> log.again(3, 0), 1);
        Check.due("the bounds", () -> log.track(0, 2) + " " + log.track(3, 2), "65535 65535");
        DriftLog zero = Made.sealed(0, 0, alongX(0, 9, 0));
        Check.due("again(0, 65536) at the bound 0", () -> zero.again(0, 65536), Check.ARGUMENT);
        Check.due("again(0, 65535) at the bound 0", () -> zero.again(0, 65535), 2);
        Check.due("its bound", () -> zero.track(0, 2), 65535);
    }
}
