import java.util.Arrays;

/** Promise 14: unpack, and the place of the FAULT. */
public final class UnpackTest {
    private static final int LAST_TIME = Made.LAST_TIME;
    private static final int FAR = Made.FAR;

    public static void main(String[] args) {
        refused();
        reads();
        counts();
        longerThanNeeded();
        times();
        timesForThoseBehind();
        places();
        missing();
        tooMany();
        faultChangesNothing();
        everyByteAtEveryPlace();
        Check.end();
    }

    private static void refused() {
        DriftLog log = Made.withBytes(1, 0, 0, 0);
        for (int id : new int[] {-1, 4, Integer.MIN_VALUE, Integer.MAX_VALUE}) {
            Check.due("unpack(" + id + ", -1)", () -> log.unpack(id, -1), Check.INDEX);
        }
        log.open(1);
        Check.due("unpack when OPEN", () -> log.unpack(1, -1), Check.STATE);
        String before = Made.all(log);
        for (int e : new int[] {-1, 65536, Integer.MIN_VALUE, Integer.MAX_VALUE}) {
            Check.due("unpack(0, " + e + ")", () -> log.unpack(0, e), Check.ARGUMENT);
        }
        Check.due("all after refused unpacks", () -> Made.all(log), before);
        Check.due("unpack(0, 65535)", () -> log.unpack(0, 65535), 1);
        Check.due("unpack when SEALED", () -> log.unpack(0, 0), Check.STATE);
        Check.due("unpack(2, 0)", () -> log.unpack(2, 0), 1);
        Check.due("the bounds", () -> log.track(0, 2) + " " + log.track(2, 2), "65535 0");
        log.cut(0);
        Check.due("e counts before the bytes", () -> log.unpack(3, -1), Check.ARGUMENT);
    }

    private static void reads() {
        DriftLog log = Made.withBytes(3, 5, 20, 19, 2, 5, 10, 1, 2, 5);
        Check.due("unpack of three", () -> log.unpack(2, 8), 3);
        Check.due("its samples", () -> Made.samples(log, 2), "5,10,-10 7,7,-5 8,8,-8");
        Check.due("state and bound", () -> log.track(2, 0) + " " + log.track(2, 2), "2 8");
        Check.due("the bytes stay", () -> Made.bytes(log), "3 5 20 19 2 5 10 1 2 5");
        // Samples on one line are kept: unpack does not thin.
        DriftLog line = Made.withBytes(3, 0, 0, 0, 1, 2, 2, 1, 2, 2);
        Check.due("unpack of a line", () -> line.unpack(0, 100), 3);
        Check.due("a line's samples", () -> Made.samples(line, 0), "0,0,0 1,1,1 2,2,2");
    }

    /** The fault's place is worked out here by hand; the oracle must agree. */
    private static void faultAt(String what, int fault, int... bytes) {
        Check.due(what, () -> Made.withBytes(bytes).unpack(0, 0), -2 - fault);
        Check.due(what + ", by the oracle", () -> Oracle.read(bytes, bytes.length), -2 - fault);
    }

    private static void readsAll(String what, String want, int... bytes) {
        DriftLog log = Made.withBytes(bytes);
        Check.due(what, () -> log.unpack(0, 0), want.split(" ").length);
        Check.due(what + ": samples", () -> Made.samples(log, 0), want);
    }

    private static void counts() {
        faultAt("no bytes", 0);
        faultAt("count 0", 0, 0);
        faultAt("count 0 with more", 0, 0, 0, 0, 0);
        faultAt("count 21", 0, 21);
        faultAt("count 127", 0, 127);
        faultAt("count goes on", 0, 129, 0, 0);
        faultAt("count goes on, 148", 0, 148, 1);
        faultAt("count 255", 0, 255);
        faultAt("count 20", 1, 20);
        faultAt("count 1", 1, 1);
    }

    private static void longerThanNeeded() {
        faultAt("time with a group too many", 2, 1, 128, 0, 0, 0);
        faultAt("time with two groups too many", 3, 1, 133, 128, 0, 0, 0);
        faultAt("x with a group too many", 3, 1, 0, 130, 0, 0);
        faultAt("y with a group too many", 4, 1, 0, 0, 128, 0);
        readsAll("zeros within a number are fine", "16384,0,0", 1, 128, 128, 1, 0, 0);
    }

    private static void times() {
        readsAll("the last time", "2147483647,0,0", 1, 255, 255, 255, 255, 7, 0, 0);
        faultAt("a time of 2147483648", 5, 1, 128, 128, 128, 128, 8, 0, 0);
        faultAt("a time of six groups", 5, 1, 128, 128, 128, 128, 128, 1, 0, 0);
        faultAt("a time of six groups, last begun", 5, 1, 128, 128, 128, 128, 135);
        faultAt("a step of 0", 4, 2, 0, 0, 0, 0, 0, 0);
        faultAt("the last time is passed", 8, 2, 254, 255, 255, 255, 7, 0, 0, 2, 0, 0);
        readsAll("the last time is reached", "2147483646,0,0 2147483647,0,0", 2, 254, 255, 255, 255, 7, 0, 0, 1, 0, 0);
        faultAt("a step that can't be long", 8, 2, 254, 255, 255, 255, 7, 0, 0, 128);
        // 127 is left: 128 and all above begin with a byte above 127.
        faultAt("a step of two groups where 127 is left", 8, 2, 128, 255, 255, 255, 7, 0, 0, 128);
        readsAll("a step of 127 where 127 is left", "2147483520,0,0 2147483647,0,0", 2, 128, 255, 255, 255, 7, 0, 0, 127, 0, 0);
        // 129 is left: two groups may begin with 0 or 1, not with 2.
        readsAll("129 where 129 is left", "2147483518,0,0 2147483647,0,0", 2, 254, 254, 255, 255, 7, 0, 0, 129, 1, 0, 0);
        faultAt("130 where 129 is left", 8, 2, 254, 254, 255, 255, 7, 0, 0, 130, 1, 0, 0);
        faultAt("256 where 129 is left", 9, 2, 254, 254, 255, 255, 7, 0, 0, 128, 2, 0, 0);
    }

    private static void timesForThoseBehind() {
        faultAt("two samples, no time for the second", 5, 2, 255, 255, 255, 255, 7, 0, 0);
        faultAt("twenty samples, one time too few", 5, 20, 237, 255, 255, 255, 7);
        faultAt("twenty samples, just enough times", 6, 20, 236, 255, 255, 255, 7);
        faultAt("three samples, the step leaves none", 8, 3, 253, 255, 255, 255, 7, 0, 0, 2);
        faultAt("three samples, the step leaves one", 9, 3, 253, 255, 255, 255, 7, 0, 0, 1);
        int[] full = new int[8 + 19 * 3];
        int[] first = {20, 236, 255, 255, 255, 7, 0, 0};
        System.arraycopy(first, 0, full, 0, 8);
        for (int i = 0; i < 19; i++) {
            full[8 + 3 * i] = 1;
        }
        DriftLog log = Made.withBytes(full);
        Check.due("the last twenty times", () -> log.unpack(0, 0), 20);
        Check.due("the last of them", () -> log.sample(0, 19, 0), LAST_TIME);
    }

    private static void places() {
        readsAll("x and y at the edges", "0,8388608,-8388608", 1, 0, 128, 128, 128, 8, 255, 255, 255, 7);
        faultAt("x of 8388609", 5, 1, 0, 130, 128, 128, 8, 0);
        faultAt("x of -8388609", 5, 1, 0, 129, 128, 128, 8, 0);
        faultAt("y of 8388609", 6, 1, 0, 0, 130, 128, 128, 8);
        faultAt("y of -8388609", 6, 1, 0, 0, 129, 128, 128, 8);
        faultAt("x of five groups", 5, 1, 0, 128, 128, 128, 136, 1, 0);
        readsAll("the widest moves", "0,-8388608,8388608 1,8388608,-8388608",
                2, 0, 255, 255, 255, 7, 128, 128, 128, 8, 1, 128, 128, 128, 16, 255, 255, 255, 15);
        // At 8388608 no move up is left, but every move down: up is even, down is odd.
        faultAt("a move up of 1 from the edge", 8, 2, 0, 128, 128, 128, 8, 0, 1, 2, 0);
        faultAt("a long move up from the edge", 8, 2, 0, 128, 128, 128, 8, 0, 1, 128, 1, 0);
        readsAll("a move down of 1 from the edge", "0,8388608,0 1,8388607,0", 2, 0, 128, 128, 128, 8, 0, 1, 1, 0);
        faultAt("a move down of 1 from the other edge", 8, 2, 0, 255, 255, 255, 7, 0, 1, 1, 0);
        readsAll("a move up of 1 from the other edge", "0,-8388608,0 1,-8388607,0", 2, 0, 255, 255, 255, 7, 0, 1, 2, 0);
        readsAll("no move at the edge", "0,8388608,0 1,8388608,0", 2, 0, 128, 128, 128, 8, 0, 1, 0, 0);
    }

    private static void missing() {
        int[] whole = Oracle.pack(new int[][] {{300, -70000, 5}, {900000, 70000, -8388608}});
        for (int n = 0; n < whole.length; n++) {
            faultAt("the first " + n + " bytes", n, Arrays.copyOf(whole, n));
        }
    }

    private static void tooMany() {
        faultAt("a byte behind one sample", 4, 1, 0, 0, 0, 0);
        faultAt("bytes behind two samples", 7, 2, 0, 0, 0, 1, 0, 0, 1, 0, 0);
        faultAt("a byte above 127 behind", 4, 1, 0, 0, 0, 128);
        int[] full = Arrays.copyOf(new int[] {1}, 300);
        faultAt("300 bytes", 4, full);
    }

    private static void faultChangesNothing() {
        DriftLog log = Made.sealed(0, 3, new int[][] {{0, 0, 0}, {10, 10, 10}});
        log.spans(0, 2, 2, 4, 4);
        Made.putAll(log, 2, 7, 7, 7, 0, 7, 7);
        String before = Made.all(log);
        Check.due("unpack with a fault in the second sample", () -> log.unpack(1, 0), -6);
        Check.due("all after a fault", () -> Made.all(log), before);
        log.open(1);
        Check.due("samples of a track that was FREE at a fault", () -> log.track(1, 1), 0);
        log.add(1, 1, 1, 1);
        log.seal(1, 0);
        log.cut(0);
        Made.putAll(log, 1, 9, 9, 9);
        Check.due("a good row after a fault", () -> log.unpack(2, 0), 1);
        Check.due("its sample", () -> Made.samples(log, 2), "9,-5,-5");
        Check.due("the other track's sample", () -> Made.samples(log, 1), "1,1,1");
    }

    private static void everyByteAtEveryPlace() {
        int[][][] rows = {
            {{LAST_TIME - 400, FAR, -FAR}, {LAST_TIME - 130, FAR - 100, -FAR + 100}, {LAST_TIME - 1, FAR, -FAR}},
            {{0, 0, 0}, {1 << 30, FAR, -FAR}, {LAST_TIME, -FAR, FAR}},
        };
        for (int[][] samples : rows) {
            int[] whole = Oracle.pack(samples);
            for (int place = 0; place < whole.length; place++) {
                for (int value = 0; value < 256; value++) {
                    int[] bytes = whole.clone();
                    bytes[place] = value;
                    Check.due("byte " + place + " is " + value + " of " + Arrays.toString(whole),
                            () -> Made.withBytes(bytes).unpack(0, 0), Oracle.read(bytes, bytes.length));
                }
            }
        }
    }
}
