import java.util.Arrays;

/** Promise 14, sentence by sentence, with what 'Terms' says of READ and the FAULT: unpack. */
public final class UnpackTest {
    private static final int LAST_TIME = Made.LAST_TIME;
    private static final int FAR = Made.FAR;

    public static void main(String[] args) {
        unpack();
        noByteBehind();
        counts();
        asFewGroups();
        times();
        timesRise();
        timesForThoseBehind();
        places();
        placesFromTheEdges();
        wrapAround();
        leastPlaceOfAll();
        missing();
        fault();
        faultStays();
        noTrack();
        notFree();
        bounds();
        everyByteAtEveryPlace();
        Check.end();
    }

    /** The fault's place is worked out here by hand; the oracle must agree. */
    private static void faultAt(String what, int fault, int... bytes) {
        Check.due(what, () -> Made.withBytes(bytes).unpack(0, 0), -2 - fault);
        Check.due(what + ", by the oracle", () -> Oracle.read(bytes, bytes.length), -2 - fault);
    }

    private static void readsAll(String what, String want, int... bytes) {
        DriftLog log = Made.withBytes(bytes);
        Check.due(what, () -> log.unpack(0, 0), want.split(" ").length);
        Check.due(what + ": samples", () -> Made.samples(log, 0), want);
    }

    private static void unpack() {
        Check.sentence("Promise 14: The bytes are READ; track id has these samples and is SEALED with the BOUND e: how many");
        DriftLog log = Made.mixed();
        log.cut(0);
        Made.putAll(log, 3, 5, 20, 19, 2, 5, 10, 1, 2, 5);
        Check.due("unpack of three", () -> log.unpack(2, 8), 3);
        Check.due("track 2", () -> Made.track(log, 2) + ": " + Made.samples(log, 2), "2 3 8: 5,10,-10 7,7,-5 8,8,-8");
        Check.due("the bytes stay", () -> Made.bytes(log), "3 5 20 19 2 5 10 1 2 5");
        Check.due("the others stay", () -> Made.track(log, 0) + ", " + Made.track(log, 1) + ", " + Made.track(log, 3), "2 4 1, 1 2 -1, 2 1 65535");
        Check.due("spans stay", () -> Made.spans(log), "2/1..8/1 11/1..14/1");
        // Samples on one line are kept: unpack does not thin.
        DriftLog line = Made.withBytes(3, 0, 0, 0, 1, 2, 2, 1, 2, 2);
        Check.due("unpack of a line", () -> line.unpack(0, 100), 3);
        Check.due("a line's samples", () -> Made.samples(line, 0), "0,0,0 1,1,1 2,2,2");
        Check.due("the same bytes to another track", () -> line.unpack(3, 0), 3);
        Check.due("its samples and bound", () -> Made.track(line, 3) + ": " + Made.samples(line, 3), "2 3 0: 0,0,0 1,1,1 2,2,2");
        line.again(0, 0);
        Check.due("the other one's samples stay when one is thinned", () -> Made.samples(line, 3), "0,0,0 1,1,1 2,2,2");
    }

    private static void noByteBehind() {
        Check.sentence("READ: no byte behind them");
        faultAt("a byte behind one sample", 4, 1, 0, 0, 0, 0);
        faultAt("bytes behind two samples", 7, 2, 0, 0, 0, 1, 0, 0, 1, 0, 0);
        faultAt("a byte above 127 behind", 4, 1, 0, 0, 0, 128);
        int[] full = Arrays.copyOf(new int[] {1}, 300);
        faultAt("300 bytes", 4, full);
        int[] twenty = Oracle.pack(Made.twenty());
        faultAt("a byte behind twenty", twenty.length, Arrays.copyOf(twenty, twenty.length + 1));
    }

    private static void counts() {
        Check.sentence("READ: 1 .. 20 samples as said above");
        faultAt("count 0", 0, 0);
        faultAt("count 0 with more", 0, 0, 0, 0, 0);
        faultAt("count 21", 0, 21);
        faultAt("count 127", 0, 127);
        faultAt("count goes on", 0, 129, 0, 0);
        faultAt("count goes on, 148", 0, 148, 1);
        faultAt("count goes on, 128", 0, 128, 1, 0, 0);
        faultAt("count 255", 0, 255);
        faultAt("count 20 alone", 1, 20);
        faultAt("count 1 alone", 1, 1);
        readsAll("count 1", "0,0,0", 1, 0, 0, 0);
        readsAll("count 20", Oracle.told(Made.twenty()), Oracle.pack(Made.twenty()));
        int[] more = Arrays.copyOf(new int[] {21}, 64);
        for (int i = 1; i < 21; i++) {
            more[1 + 3 * i] = 1;
        }
        faultAt("21 samples, all there", 0, more);
    }

    private static void asFewGroups() {
        Check.sentence("NUMBERS: as few groups as can be");
        faultAt("time with a group too many", 2, 1, 128, 0, 0, 0);
        faultAt("time with two groups too many", 3, 1, 133, 128, 0, 0, 0);
        faultAt("time with four groups too many", 5, 1, 133, 128, 128, 128, 0, 0, 0);
        faultAt("x with a group too many", 3, 1, 0, 130, 0, 0);
        faultAt("x with two groups too many", 4, 1, 0, 130, 128, 0, 0);
        faultAt("y with a group too many", 4, 1, 0, 0, 128, 0);
        faultAt("a later time with a group too many", 5, 2, 0, 0, 0, 129, 0, 0, 0);
        readsAll("zeros within a number are fine", "16384,0,0", 1, 128, 128, 1, 0, 0);
        readsAll("a 0 in one group is fine", "0,0,0", 1, 0, 0, 0);
    }

    private static void times() {
        Check.sentence("FAULT: a TIME, 0 .. 2147483647");
        readsAll("time 0", "0,1,1", 1, 0, 2, 2);
        readsAll("the last time", "2147483647,0,0", 1, 255, 255, 255, 255, 7, 0, 0);
        faultAt("a time of 2147483648", 5, 1, 128, 128, 128, 128, 8, 0, 0);
        faultAt("a time of 4294967295", 5, 1, 255, 255, 255, 255, 15, 0, 0);
        faultAt("a time of six groups", 5, 1, 128, 128, 128, 128, 128, 1, 0, 0);
        faultAt("a time of six groups, last begun", 5, 1, 128, 128, 128, 128, 135);
        faultAt("the last time is passed", 8, 2, 254, 255, 255, 255, 7, 0, 0, 2, 0, 0);
        readsAll("the last time is reached", "2147483646,0,0 2147483647,0,0", 2, 254, 255, 255, 255, 7, 0, 0, 1, 0, 0);
        faultAt("a step that can't be long", 8, 2, 254, 255, 255, 255, 7, 0, 0, 128);
        // 127 is left: 128 and all above begin with a byte above 127.
        faultAt("a step of two groups where 127 is left", 8, 2, 128, 255, 255, 255, 7, 0, 0, 128);
        readsAll("a step of 127 where 127 is left", "2147483520,0,0 2147483647,0,0", 2, 128, 255, 255, 255, 7, 0, 0, 127, 0, 0);
        // 129 is left: two groups may begin with 0 or 1, not with 2.
        readsAll("129 where 129 is left", "2147483518,0,0 2147483647,0,0", 2, 254, 254, 255, 255, 7, 0, 0, 129, 1, 0, 0);
        faultAt("130 where 129 is left", 8, 2, 254, 254, 255, 255, 7, 0, 0, 130, 1, 0, 0);
        faultAt("256 where 129 is left", 9, 2, 254, 254, 255, 255, 7, 0, 0, 128, 2, 0, 0);
        readsAll("the longest step", "0,0,0 2147483647,0,0", 2, 0, 0, 0, 255, 255, 255, 255, 7, 0, 0);
    }

    private static void timesRise() {
        Check.sentence("FAULT: of a track the times rise strictly");
        faultAt("a step of 0", 4, 2, 0, 0, 0, 0, 0, 0);
        faultAt("a step of 0 behind a step of 1", 7, 3, 0, 0, 0, 1, 0, 0, 0, 0, 0);
        readsAll("steps of 1", "0,0,0 1,0,0 2,0,0", 3, 0, 0, 0, 1, 0, 0, 1, 0, 0);
    }

    private static void timesForThoseBehind() {
        Check.sentence("FAULT: not the beginning of any row that some samples have when they are packed");
        faultAt("two samples, no time for the second", 5, 2, 255, 255, 255, 255, 7, 0, 0);
        faultAt("two samples, one time for the second", 6, 2, 254, 255, 255, 255, 7);
        faultAt("twenty samples, one time too few", 5, 20, 237, 255, 255, 255, 7);
        faultAt("twenty samples, just enough times", 6, 20, 236, 255, 255, 255, 7);
        faultAt("three samples, the step leaves none", 8, 3, 253, 255, 255, 255, 7, 0, 0, 2);
        faultAt("three samples, the step leaves one", 9, 3, 253, 255, 255, 255, 7, 0, 0, 1);
        int[] full = new int[8 + 19 * 3];
        int[] first = {20, 236, 255, 255, 255, 7, 0, 0};
        System.arraycopy(first, 0, full, 0, 8);
        for (int i = 0; i < 19; i++) {
            full[8 + 3 * i] = 1;
        }
        DriftLog log = Made.withBytes(full);
        Check.due("the last twenty times", () -> log.unpack(0, 0), 20);
        Check.due("the last of them", () -> log.sample(0, 19, 0), LAST_TIME);
    }

    private static void places() {
        Check.sentence("FAULT: x, y, -8388608 .. 8388608");
        readsAll("greatest x, least y", "0,8388608,-8388608", 1, 0, 128, 128, 128, 8, 255, 255, 255, 7);
        readsAll("least x, greatest y", "0,-8388608,8388608", 1, 0, 255, 255, 255, 7, 128, 128, 128, 8);
        faultAt("x of 8388609", 5, 1, 0, 130, 128, 128, 8, 0);
        faultAt("x of -8388609", 5, 1, 0, 129, 128, 128, 8, 0);
        faultAt("y of 8388609", 6, 1, 0, 0, 130, 128, 128, 8);
        faultAt("y of -8388609", 6, 1, 0, 0, 129, 128, 128, 8);
        faultAt("x of five groups", 5, 1, 0, 128, 128, 128, 136, 1, 0);
        faultAt("y of five groups", 6, 1, 0, 0, 128, 128, 128, 136, 1);
        readsAll("the widest moves", "0,-8388608,8388608 1,8388608,-8388608",
                2, 0, 255, 255, 255, 7, 128, 128, 128, 8, 1, 128, 128, 128, 16, 255, 255, 255, 15);
        faultAt("x up by one more than the widest", 11, 2, 0, 255, 255, 255, 7, 0, 1, 130, 128, 128, 16, 0);
        faultAt("y down by one more than the widest", 12, 2, 0, 0, 128, 128, 128, 8, 1, 0, 129, 128, 128, 16);
    }

    private static void placesFromTheEdges() {
        Check.sentence("FAULT: x, y, -8388608 .. 8388608, of a later sample");
        // At 8388608 no move up is left, but every move down: up is even, down is odd.
        faultAt("x up by 1 from the edge", 8, 2, 0, 128, 128, 128, 8, 0, 1, 2, 0);
        faultAt("x up by 64 from the edge", 8, 2, 0, 128, 128, 128, 8, 0, 1, 128, 1, 0);
        readsAll("x down by 1 from the edge", "0,8388608,0 1,8388607,0", 2, 0, 128, 128, 128, 8, 0, 1, 1, 0);
        faultAt("x down by 1 from the other edge", 8, 2, 0, 255, 255, 255, 7, 0, 1, 1, 0);
        faultAt("x down by 65 from the other edge", 8, 2, 0, 255, 255, 255, 7, 0, 1, 129, 1, 0);
        readsAll("x up by 1 from the other edge", "0,-8388608,0 1,-8388607,0", 2, 0, 255, 255, 255, 7, 0, 1, 2, 0);
        readsAll("no move at the edge", "0,8388608,0 1,8388608,0", 2, 0, 128, 128, 128, 8, 0, 1, 0, 0);
        faultAt("y up by 1 from the edge", 9, 2, 0, 0, 128, 128, 128, 8, 1, 0, 2);
        readsAll("y down by 1 from the edge", "0,0,8388608 1,0,8388607", 2, 0, 0, 128, 128, 128, 8, 1, 0, 1);
        faultAt("y down by 1 from the other edge", 9, 2, 0, 0, 255, 255, 255, 7, 1, 0, 1);
        readsAll("y up by 1 from the other edge", "0,0,-8388608 1,0,-8388607", 2, 0, 0, 255, 255, 255, 7, 1, 0, 2);
    }

    private static void wrapAround() {
        Check.sentence("FAULT: numbers that would wrap around to a good one");
        faultAt("a time of 5 and 2 to the 32", 5, 1, 133, 128, 128, 128, 16, 0, 0);
        faultAt("a time of 5 and 2 to the 35", 5, 1, 133, 128, 128, 128, 128, 1, 0, 0);
        faultAt("a time of 5 and 2 to the 63, and more", 5, 1, 133, 128, 128, 128, 128, 128, 128, 128, 128, 2, 0, 0);
        faultAt("a step of 1 and 2 to the 32", 8, 2, 5, 0, 0, 129, 128, 128, 128, 16, 0, 0);
        faultAt("a step that wraps to the time before", 8, 2, 5, 0, 0, 255, 255, 255, 255, 15, 0, 0);
        faultAt("a move of 1 and 2 to the 32", 5, 1, 0, 130, 128, 128, 128, 16, 0);
        faultAt("a count of 1 and 2 to the 32", 0, 129, 128, 128, 128, 16, 0, 0, 0);
    }

    private static void leastPlaceOfAll() {
        Check.sentence("FAULT: the least place k");
        faultAt("a wrong step, then a wrong x and a byte behind", 4, 2, 0, 0, 0, 0, 130, 0, 0, 0);
        faultAt("a wrong count, then a wrong time", 0, 0, 128, 0, 0, 0);
        faultAt("a wrong x, then too few", 3, 2, 0, 130, 0);
    }

    private static void missing() {
        Check.sentence("FAULT: if there is none but bytes are missing, it is how many bytes there are");
        faultAt("no bytes", 0);
        int[] whole = Oracle.pack(new int[][] {{300, -70000, 5}, {900000, 70000, -8388608}});
        for (int n = 0; n < whole.length; n++) {
            faultAt("the first " + n + " bytes", n, Arrays.copyOf(whole, n));
        }
        DriftLog log = Made.withBytes(1, 0, 0, 0);
        log.cut(3);
        Check.due("a byte that was cut", () -> log.unpack(0, 0), -5);
        int[] twenty = Oracle.pack(Made.twenty());
        faultAt("twenty but for a byte", twenty.length - 1, Arrays.copyOf(twenty, twenty.length - 1));
    }

    private static void fault() {
        Check.sentence("Promise 14: or -2 less the FAULT if there is one");
        Check.due("the fault 0", () -> Made.withBytes(0).unpack(0, 0), -2);
        Check.due("the fault 1", () -> Made.withBytes(1).unpack(0, 0), -3);
        Check.due("the fault 4", () -> Made.withBytes(1, 0, 0, 0, 0).unpack(0, 0), -6);
    }

    private static DriftLog mixedWithAFault() {
        DriftLog log = Made.mixed();
        log.cut(0);
        Made.putAll(log, 2, 7, 7, 7, 0, 7, 7);
        return log;
    }

    private static void faultStays() {
        Check.sentence("Promise 14: (it stays as it is)");
        Check.refused("unpack with a fault in the second sample", UnpackTest::mixedWithAFault, log -> log.unpack(2, 0), -6);
        DriftLog log = mixedWithAFault();
        log.unpack(2, 0);
        Check.due("a FREE track can be opened after a fault", () -> Made.opened(log, 2), "nothing");
        Check.due("it has no samples", () -> Made.track(log, 2), "1 0 -1");
        Check.due("its first sample", () -> log.add(2, 0, 1, 1), 1);
        DriftLog next = mixedWithAFault();
        next.unpack(2, 0);
        next.cut(0);
        Made.putAll(next, 1, 9, 9, 9);
        Check.due("a good row after a fault", () -> next.unpack(2, 0), 1);
        Check.due("its sample", () -> Made.samples(next, 2), "9,-5,-5");
        Check.due("the other track's samples", () -> Made.samples(next, 1), "5,5,5 6,7,8");
    }

    private static DriftLog mixedWithAGoodRow() {
        DriftLog log = Made.mixed();
        log.cut(4);
        return log;
    }

    private static void noTrack() {
        Check.sentence("Promise 14: IndexOutOfBoundsException if there is no such track");
        for (int id : Made.NO_TRACKS) {
            Check.refused("unpack(" + id + ", 0)", UnpackTest::mixedWithAGoodRow, log -> log.unpack(id, 0), Check.INDEX);
            Check.refused("unpack(" + id + ", -1)", UnpackTest::mixedWithAGoodRow, log -> log.unpack(id, -1), Check.INDEX);
            Check.refused("unpack(" + id + ", 0) with a fault", UnpackTest::mixedWithAFault, log -> log.unpack(id, 0), Check.INDEX);
        }
    }

    private static void notFree() {
        Check.sentence("Promise 14: IllegalStateException if it is not FREE");
        for (int e : new int[] {0, 65535, -1, 65536}) {
            Check.refused("unpack(0, " + e + ") when SEALED", UnpackTest::mixedWithAGoodRow, log -> log.unpack(0, e), Check.STATE);
            Check.refused("unpack(1, " + e + ") when OPEN", UnpackTest::mixedWithAGoodRow, log -> log.unpack(1, e), Check.STATE);
            Check.refused("unpack(1, " + e + ") when OPEN, with a fault", UnpackTest::mixedWithAFault, log -> log.unpack(1, e), Check.STATE);
        }
        DriftLog log = mixedWithAGoodRow();
        log.open(2);
        Check.due("unpack when OPEN without samples", () -> log.unpack(2, 0), Check.STATE);
        log.drop(2);
        Check.due("unpack when dropped", () -> log.unpack(2, 0), 1);
        Check.due("unpack once more", () -> log.unpack(2, 0), Check.STATE);
    }

    private static void bounds() {
        Check.sentence("Promise 14: IllegalArgumentException if e is not 0 .. 65535");
        for (int e : new int[] {-1, 65536, 131071, Integer.MIN_VALUE, Integer.MAX_VALUE}) {
            Check.refused("unpack(2, " + e + ")", UnpackTest::mixedWithAGoodRow, log -> log.unpack(2, e), Check.ARGUMENT);
            Check.refused("unpack(2, " + e + ") with a fault", UnpackTest::mixedWithAFault, log -> log.unpack(2, e), Check.ARGUMENT);
            Check.due("unpack(2, " + e + ") of no bytes", () -> new DriftLog().unpack(2, e), Check.ARGUMENT);
        }
        for (int e : new int[] {0, 1, 65534, 65535}) {
            DriftLog log = mixedWithAGoodRow();
            Check.due("unpack(2, " + e + ")", () -> log.unpack(2, e), 1);
            Check.due("its bound", () -> Made.track(log, 2), "2 1 " + e);
        }
    }

    private static void everyByteAtEveryPlace() {
        Check.sentence("FAULT: the least place k such that the bytes 0 .. k are not the beginning of any row");
        int[][][] rows = {
            {{LAST_TIME - 400, FAR, -FAR}, {LAST_TIME - 130, FAR - 100, -FAR + 100}, {LAST_TIME - 1, FAR, -FAR}},
            {{0, 0, 0}, {1 << 30, FAR, -FAR}, {LAST_TIME, -FAR, FAR}},
        };
        for (int[][] samples : rows) {
            int[] whole = Oracle.pack(samples);
            for (int place = 0; place < whole.length; place++) {
                for (int value = 0; value < 256; value++) {
                    int[] bytes = whole.clone();
                    bytes[place] = value;
                    Check.due("byte " + place + " is " + value + " of " + Arrays.toString(whole),
                            () -> Made.withBytes(bytes).unpack(0, 0), Oracle.read(bytes, bytes.length));
                }
            }
        }
    }
}
