import java.util.Arrays;

/** Promises 1 to 3 and 6 to 8, sentence by sentence: a new object, open, add, drop, track, sample. */
public final class TracksTest {
    private static final int LAST_TIME = Made.LAST_TIME;
    private static final int FAR = Made.FAR;
    private static final int[] NO_W = {-1, 3, 4, Integer.MIN_VALUE, Integer.MAX_VALUE};

    public static void main(String[] args) {
        newTracks();
        newWithoutBytes();
        newWithoutSpans();
        newBesideAUsedOne();
        open();
        openWithoutSamples();
        openNoTrack();
        openNotFree();
        add();
        addNoTrack();
        addNotOpen();
        addToTwenty();
        addTimes();
        addPlaces();
        addTimesRise();
        drop();
        dropOthersStay();
        dropFree();
        trackState();
        trackSamples();
        trackBound();
        trackNone();
        sample();
        sampleNoTrack();
        sampleNoSample();
        sampleNoW();
        Check.end();
    }

    private static void newTracks() {
        Check.sentence("Promise 1: All tracks are FREE");
        DriftLog log = new DriftLog();
        for (int id = 0; id < 4; id++) {
            int each = id;
            Check.due("track " + id, () -> Made.track(log, each), "0 0 -1");
            Check.due("sample(" + id + ", 0, 0)", () -> log.sample(each, 0, 0), Check.INDEX);
            Check.due("drop(" + id + ")", () -> log.drop(each), false);
        }
    }

    private static void newWithoutBytes() {
        Check.sentence("Promise 1: no bytes");
        DriftLog log = new DriftLog();
        Check.due("bytes(-1)", () -> log.bytes(-1), 0);
        Check.due("bytes(0)", () -> log.bytes(0), -1);
        Check.due("cut(1)", () -> log.cut(1), false);
        Check.due("unpack(0, 0)", () -> log.unpack(0, 0), -2);
    }

    private static void newWithoutSpans() {
        Check.sentence("Promise 1: no spans");
        Check.due("span(0, ..)", () -> new DriftLog().span(0, false, false), Check.INDEX);
        Check.due("span(0, .. end, second)", () -> new DriftLog().span(0, true, true), Check.INDEX);
    }

    private static void newBesideAUsedOne() {
        Check.sentence("Promise 1: A new object");
        DriftLog used = Made.mixed();
        String before = Made.all(Made.mixed());
        DriftLog log = new DriftLog();
        Check.due("all of a new object when another is in use", () -> Made.all(log), "0 -1: ; 0 -1: ; 0 -1: ; 0 -1: ; ; ");
        Made.fill(log, 2, new int[][] {{1, 2, 3}});
        log.seal(2, 0);
        log.pack(2);
        log.spans(2, 0, 0, 9, 9);
        Check.due("all of the one that was in use", () -> Made.all(used), before);
    }

    private static void open() {
        Check.sentence("Promise 2: Track id is OPEN");
        for (int id = 0; id < 4; id++) {
            DriftLog log = new DriftLog();
            int each = id;
            Check.due("open(" + id + ")", () -> Made.opened(log, each), "nothing");
            for (int other = 0; other < 4; other++) {
                int one = other;
                Check.due("track " + other + " after open(" + id + ")", () -> log.track(one, 0), other == id ? 1 : 0);
            }
        }
    }

    private static void openWithoutSamples() {
        Check.sentence("Promise 2: without samples");
        DriftLog log = new DriftLog();
        log.open(1);
        Check.due("track 1", () -> Made.track(log, 1), "1 0 -1");
        Check.due("a sample", () -> log.sample(1, 0, 0), Check.INDEX);
        DriftLog open = Made.mixed();
        open.drop(1);
        open.open(1);
        Check.due("one that was OPEN, dropped", () -> Made.track(open, 1), "1 0 -1");
        Check.due("its first sample may be before those it had", () -> open.add(1, 0, 0, 0), 1);
        DriftLog sealed = Made.mixed();
        sealed.drop(0);
        sealed.open(0);
        Check.due("one that was SEALED, dropped", () -> Made.track(sealed, 0), "1 0 -1");
        Check.due("its samples are gone", () -> sealed.sample(0, 0, 0), Check.INDEX);
    }

    private static void openNoTrack() {
        Check.sentence("Promise 2: IndexOutOfBoundsException if there is no such track");
        for (int id : Made.NO_TRACKS) {
            Check.refused("open(" + id + ")", Made::mixed, log -> Made.opened(log, id), Check.INDEX);
        }
    }

    private static void openNotFree() {
        Check.sentence("Promise 2: IllegalStateException if it is not FREE");
        Check.refused("open when OPEN", Made::mixed, log -> Made.opened(log, 1), Check.STATE);
        Check.refused("open when OPEN without samples", () -> Made.open(2, new int[0][]), log -> Made.opened(log, 2), Check.STATE);
        Check.refused("open when SEALED", Made::mixed, log -> Made.opened(log, 0), Check.STATE);
        DriftLog read = Made.withBytes(1, 0, 0, 0);
        read.unpack(3, 0);
        Check.due("open when SEALED by unpack", () -> Made.opened(read, 3), Check.STATE);
    }

    private static void add() {
        Check.sentence("Promise 3: One more sample: how many it has");
        DriftLog log = new DriftLog();
        log.open(0);
        log.open(2);
        for (int i = 0; i < 20; i++) {
            int each = i;
            Check.due("sample " + i + " of 20", () -> log.add(2, each * 7, each, -each), i + 1);
            Check.due("how many after it", () -> log.track(2, 1), i + 1);
        }
        Check.due("the first", () -> log.sample(2, 0, 0) + " " + log.sample(2, 0, 1) + " " + log.sample(2, 0, 2), "0 0 0");
        Check.due("the last", () -> log.sample(2, 19, 0) + " " + log.sample(2, 19, 1) + " " + log.sample(2, 19, 2), "133 19 -19");
        Check.due("another OPEN track has none", () -> log.track(0, 1), 0);
        Check.due("it is still OPEN", () -> log.track(2, 0), 1);
    }

    private static void addNoTrack() {
        Check.sentence("Promise 3: IndexOutOfBoundsException if there is no such track");
        for (int id : Made.NO_TRACKS) {
            Check.refused("add(" + id + ", ..)", Made::mixed, log -> log.add(id, 50, 0, 0), Check.INDEX);
            Check.refused("add(" + id + ", ..) with wrong numbers", Made::mixed, log -> log.add(id, -1, FAR + 1, 0), Check.INDEX);
        }
    }

    private static void addNotOpen() {
        Check.sentence("Promise 3: IllegalStateException if it is not OPEN");
        Check.refused("add when FREE", Made::mixed, log -> log.add(2, 50, 0, 0), Check.STATE);
        Check.refused("add when FREE with wrong numbers", Made::mixed, log -> log.add(2, -1, FAR + 1, 0), Check.STATE);
        Check.refused("add when SEALED", Made::mixed, log -> log.add(0, 50, 0, 0), Check.STATE);
        Check.refused("add when SEALED with a time before", Made::mixed, log -> log.add(0, 1, 0, 0), Check.STATE);
        Check.refused("add when dropped", TracksTest::dropped, log -> log.add(1, 50, 0, 0), Check.STATE);
    }

    private static DriftLog dropped() {
        DriftLog log = Made.mixed();
        log.drop(1);
        return log;
    }

    private static void addToTwenty() {
        Check.sentence("Promise 3: IllegalStateException if it .. has 20");
        Check.due("the 20th", () -> Made.open(3, Arrays.copyOf(Made.twenty(), 19)).add(3, 58, 0, 0), 20);
        Check.refused("a 21st", () -> Made.open(3, Made.twenty()), log -> log.add(3, 1000, 0, 0), Check.STATE);
        Check.refused("a 21st with wrong numbers", () -> Made.open(3, Made.twenty()), log -> log.add(3, -1, FAR + 1, 0), Check.STATE);
        Check.refused("a 21st with the time of the last", () -> Made.open(3, Made.twenty()), log -> log.add(3, 58, 0, 0), Check.STATE);
        DriftLog log = Made.open(3, Made.twenty());
        log.open(0);
        Check.due("another track has room", () -> log.add(0, 1, 1, 1), 1);
    }

    private static DriftLog openedOnly() {
        return Made.open(0, new int[0][]);
    }

    private static void addTimes() {
        Check.sentence("Promise 3: IllegalArgumentException if a number is not as said; a TIME, 0 .. 2147483647");
        for (int t : new int[] {-1, -2, Integer.MIN_VALUE, Integer.MIN_VALUE + 1}) {
            Check.refused("time " + t + " as the first", TracksTest::openedOnly, log -> log.add(0, t, 0, 0), Check.ARGUMENT);
            Check.refused("time " + t, Made::mixed, log -> log.add(1, t, 0, 0), Check.ARGUMENT);
        }
        DriftLog log = openedOnly();
        Check.due("time 0", () -> log.add(0, 0, 0, 0), 1);
        Check.due("time 1", () -> log.add(0, 1, 0, 0), 2);
        Check.due("time 2147483646", () -> log.add(0, LAST_TIME - 1, 0, 0), 3);
        Check.due("time 2147483647", () -> log.add(0, LAST_TIME, 0, 0), 4);
        Check.due("the samples", () -> Made.samples(log, 0), "0,0,0 1,0,0 2147483646,0,0 2147483647,0,0");
        Check.due("2147483647 as the first", () -> openedOnly().add(0, LAST_TIME, 0, 0), 1);
    }

    private static void addPlaces() {
        Check.sentence("Promise 3: IllegalArgumentException if a number is not as said; x, y, -8388608 .. 8388608");
        for (int far : new int[] {FAR + 1, -FAR - 1, Integer.MIN_VALUE, Integer.MIN_VALUE + 1, Integer.MAX_VALUE}) {
            Check.refused("x " + far, Made::mixed, log -> log.add(1, 50, far, 0), Check.ARGUMENT);
            Check.refused("y " + far, Made::mixed, log -> log.add(1, 50, 0, far), Check.ARGUMENT);
            Check.refused("x and y " + far, TracksTest::openedOnly, log -> log.add(0, 0, far, far), Check.ARGUMENT);
        }
        DriftLog log = openedOnly();
        Check.due("greatest x, least y", () -> log.add(0, 1, FAR, -FAR), 1);
        Check.due("least x, greatest y", () -> log.add(0, 2, -FAR, FAR), 2);
        Check.due("the samples", () -> Made.samples(log, 0), "1,8388608,-8388608 2,-8388608,8388608");
    }

    private static void addTimesRise() {
        Check.sentence("Promise 3: IllegalArgumentException if .. t is not above the time of the last one");
        for (int t : new int[] {6, 5, 4, 0}) {
            Check.refused("time " + t + " behind 6", Made::mixed, log -> log.add(1, t, 0, 0), Check.ARGUMENT);
        }
        Check.due("time 7 behind 6", () -> Made.mixed().add(1, 7, 0, 0), 3);
        Check.refused("time 0 behind 0", () -> Made.open(0, new int[][] {{0, 0, 0}}), log -> log.add(0, 0, 1, 1), Check.ARGUMENT);
        for (int t : new int[] {LAST_TIME, LAST_TIME - 1, 0, Integer.MIN_VALUE}) {
            Check.refused("time " + t + " behind the last time", () -> Made.open(0, new int[][] {{LAST_TIME, 0, 0}}),
                    log -> log.add(0, t, 1, 1), Check.ARGUMENT);
        }
    }

    private static void drop() {
        Check.sentence("Promise 6: Track id is FREE: true");
        DriftLog log = Made.mixed();
        Check.due("drop when OPEN", () -> log.drop(1), true);
        Check.due("drop when SEALED", () -> log.drop(0), true);
        for (int id = 0; id < 2; id++) {
            int each = id;
            Check.due("track " + id, () -> Made.track(log, each), "0 0 -1");
            Check.due("a sample of track " + id, () -> log.sample(each, 0, 0), Check.INDEX);
        }
        DriftLog empty = Made.open(2, new int[0][]);
        Check.due("drop when OPEN without samples", () -> empty.drop(2), true);
        Check.due("track 2", () -> Made.track(empty, 2), "0 0 -1");
        Check.due("a dropped track can be unpacked to", () -> log.cut(0) && log.put(4, 0x01070305) && log.unpack(0, 9) == 1, true);
        Check.due("its sample", () -> Made.track(log, 0) + ": " + Made.samples(log, 0), "2 1 9: 7,-2,-3");
    }

    private static void dropOthersStay() {
        Check.sentence("Promise 6: Track id is FREE");
        DriftLog log = Made.mixed();
        log.drop(0);
        DriftLog mixed = Made.mixed();
        Check.due("the OPEN track stays", () -> Made.track(log, 1) + Made.samples(log, 1), Made.track(mixed, 1) + Made.samples(mixed, 1));
        Check.due("the other SEALED one stays", () -> Made.track(log, 3) + Made.samples(log, 3), Made.track(mixed, 3) + Made.samples(mixed, 3));
        Check.due("bytes stay", () -> Made.bytes(log), Made.bytes(mixed));
        Check.due("spans stay", () -> Made.spans(log), "2/1..8/1 11/1..14/1");
    }

    private static void dropFree() {
        Check.sentence("Promise 6: false if it was, or there is none such");
        Check.refused("drop when FREE", Made::mixed, log -> log.drop(2), false);
        Check.refused("drop once more", TracksTest::dropped, log -> log.drop(1), false);
        for (int id : Made.NO_TRACKS) {
            Check.refused("drop(" + id + ")", Made::mixed, log -> log.drop(id), false);
        }
    }

    private static void trackState() {
        Check.sentence("Promise 7: w = 0: 0 FREE, 1 OPEN, 2 SEALED");
        DriftLog log = Made.mixed();
        Check.due("the states", () -> log.track(0, 0) + " " + log.track(1, 0) + " " + log.track(2, 0) + " " + log.track(3, 0), "2 1 0 2");
    }

    private static void trackSamples() {
        Check.sentence("Promise 7: 1: how many samples it has");
        DriftLog log = Made.mixed();
        Check.due("how many", () -> log.track(0, 1) + " " + log.track(1, 1) + " " + log.track(2, 1) + " " + log.track(3, 1), "4 2 0 1");
        Check.due("OPEN without samples", () -> openedOnly().track(0, 1), 0);
        Check.due("twenty", () -> Made.open(0, Made.twenty()).track(0, 1), 20);
        Check.due("twenty, SEALED", () -> Made.sealed(0, 0, Made.twenty()).track(0, 1), 20);
        Check.due("those that are dropped don't count", () -> Made.sealed(0, 65535, Made.twenty()).track(0, 1), 2);
    }

    private static void trackBound() {
        Check.sentence("Promise 7: 2: its BOUND, NONE if it is not SEALED");
        DriftLog log = Made.mixed();
        Check.due("the bounds", () -> log.track(0, 2) + " " + log.track(1, 2) + " " + log.track(2, 2) + " " + log.track(3, 2), "1 -1 -1 65535");
        Check.due("a bound of 0", () -> Made.sealed(1, 0, Made.twenty()).track(1, 2), 0);
        log.drop(0);
        Check.due("dropped", () -> log.track(0, 2), -1);
        log.open(0);
        Check.due("opened again", () -> log.track(0, 2), -1);
    }

    private static void trackNone() {
        Check.sentence("Promise 7: NONE if there is none such or no such w");
        DriftLog log = Made.mixed();
        for (int id : Made.NO_TRACKS) {
            for (int w = -1; w < 4; w++) {
                int each = w;
                Check.due("track(" + id + ", " + w + ")", () -> log.track(id, each), -1);
            }
        }
        for (int w : NO_W) {
            for (int id = 0; id < 4; id++) {
                int each = id;
                Check.due("track(" + id + ", " + w + ")", () -> log.track(each, w), -1);
            }
        }
    }

    private static void sample() {
        Check.sentence("Promise 8: Sample i of track id: w = 0 its time, 1 x, 2 y");
        DriftLog log = Made.mixed();
        Check.due("of an OPEN track", () -> log.sample(1, 1, 0) + " " + log.sample(1, 1, 1) + " " + log.sample(1, 1, 2), "6 7 8");
        Check.due("of a SEALED track", () -> log.sample(0, 2, 0) + " " + log.sample(0, 2, 1) + " " + log.sample(0, 2, 2), "20 10 -5");
        int[][] twenty = Made.twenty();
        Check.due("twenty, OPEN", () -> Made.samples(Made.open(3, twenty), 3), Oracle.told(twenty));
        Check.due("twenty, SEALED", () -> Made.samples(Made.sealed(3, 0, twenty), 3), Oracle.told(twenty));
    }

    private static void sampleNoTrack() {
        Check.sentence("Promise 8: IndexOutOfBoundsException if there is no such track");
        for (int id : Made.NO_TRACKS) {
            Check.refused("sample(" + id + ", 0, 0)", Made::mixed, log -> log.sample(id, 0, 0), Check.INDEX);
        }
    }

    private static void sampleNoSample() {
        Check.sentence("Promise 8: IndexOutOfBoundsException if there is no such .. sample");
        for (int i : new int[] {-1, 4, 19, 20, 21, Integer.MIN_VALUE, Integer.MAX_VALUE}) {
            Check.refused("sample(0, " + i + ", 0) of four", Made::mixed, log -> log.sample(0, i, 0), Check.INDEX);
            Check.refused("sample(2, " + i + ", 0) of a FREE track", Made::mixed, log -> log.sample(2, i, 0), Check.INDEX);
        }
        Check.due("sample(2, 0, 0) of a FREE track", () -> Made.mixed().sample(2, 0, 0), Check.INDEX);
        Check.due("sample(0, 0, 0) of an OPEN one without samples", () -> openedOnly().sample(0, 0, 0), Check.INDEX);
        Check.due("sample(1, 2, 1) of an OPEN one with two", () -> Made.mixed().sample(1, 2, 1), Check.INDEX);
        for (int i : new int[] {-1, 20}) {
            Check.due("sample(3, " + i + ", 2) of twenty", () -> Made.open(3, Made.twenty()).sample(3, i, 2), Check.INDEX);
        }
        Check.due("one that seal dropped", () -> Made.sealed(3, 65535, Made.twenty()).sample(3, 2, 0), Check.INDEX);
    }

    private static void sampleNoW() {
        Check.sentence("Promise 8: IndexOutOfBoundsException if there is no such .. w");
        for (int w : NO_W) {
            Check.refused("sample(0, 0, " + w + ")", Made::mixed, log -> log.sample(0, 0, w), Check.INDEX);
            Check.refused("sample(1, 1, " + w + ")", Made::mixed, log -> log.sample(1, 1, w), Check.INDEX);
        }
    }
}
