/** Promises 10 to 13, sentence by sentence, with what 'Terms' says of NUMBERS and PACKED: pack, bytes, put, cut. */
public final class BytesTest {
    private static final int LAST_TIME = Made.LAST_TIME;
    private static final int FAR = Made.FAR;
    private static final long PART = 0x8182838485868788L;

    public static void main(String[] args) {
        howMany();
        lessTheOneBefore();
        folded();
        groups();
        asFewGroupsAsCanBe();
        atTheEdges();
        pack();
        packNoTrack();
        packNotSealed();
        bytesInRange();
        bytesCount();
        bytesNone();
        put();
        putToTheEnd();
        putN();
        putMoreThan300();
        cut();
        cutTooMany();
        cutBelowZero();
        cutOfNone();
        Check.end();
    }

    /** Packs, and reads the same samples again. */
    private static void packs(String what, int[][] samples, String want) {
        DriftLog log = Made.sealed(1, 0, samples);
        Made.putAll(log, 9, 9, 9, 9, 9, 9, 9, 9, 9, 9, 9, 9, 9, 9, 9, 9, 9, 9, 9, 9);
        Check.due(what + ": pack", () -> log.pack(1), want.split(" ").length);
        Check.due(what + ": bytes", () -> Made.bytes(log), want);
        Check.due(what + ": unpack", () -> log.unpack(2, 0), samples.length);
        Check.due(what + ": samples", () -> Made.samples(log, 2), Oracle.told(samples));
    }

    private static void howMany() {
        Check.sentence("PACKED: how many there are");
        packs("one", new int[][] {{0, 0, 0}}, "1 0 0 0");
        packs("two", new int[][] {{0, 0, 0}, {1, 0, 0}}, "2 0 0 0 1 0 0");
        int[][] twenty = Made.twenty();
        packs("twenty", twenty, Oracle.toldBytes(Oracle.pack(twenty)));
        DriftLog log = Made.sealed(0, 0, twenty);
        log.pack(0);
        Check.due("the first byte of twenty", () -> log.bytes(0), 20);
    }

    private static void lessTheOneBefore() {
        Check.sentence("PACKED: of each sample the time less that of the one before (of the first: its time), and x and y less those of the one before"
                + " (of the first: x and y)");
        packs("the first as it is", new int[][] {{9, 3, -3}}, "1 9 6 5");
        packs("differences", new int[][] {{5, 10, -10}, {7, 7, -5}, {8, 8, -8}}, "3 5 20 19 2 5 10 1 2 5");
        packs("times are not folded", new int[][] {{1, 0, 0}, {64, 0, 0}}, "2 1 0 0 63 0 0");
    }

    private static void folded() {
        Check.sentence("PACKED: as (v << 1) ^ (v >> 31)");
        packs("0", new int[][] {{0, 0, 0}}, "1 0 0 0");
        packs("1 and -1", new int[][] {{0, 1, -1}}, "1 0 2 1");
        packs("-2 and 2", new int[][] {{0, -2, 2}}, "1 0 3 4");
        packs("down and up", new int[][] {{0, 5, 5}, {1, 4, 6}}, "2 0 10 10 1 1 2");
    }

    private static void groups() {
        Check.sentence("NUMBERS: in groups of seven bits, the lowest first, each but the last one with + 128");
        packs("300", new int[][] {{300, 150, -150}}, "1 172 2 172 2 171 2");
        packs("1000000", new int[][] {{1000000, 0, 0}}, "1 192 132 61 0 0");
    }

    private static void asFewGroupsAsCanBe() {
        Check.sentence("NUMBERS: as few groups as can be");
        packs("one group full", new int[][] {{127, 63, -64}}, "1 127 126 127");
        packs("two groups", new int[][] {{128, 64, -65}}, "1 128 1 128 1 129 1");
        packs("two groups full", new int[][] {{16383, 8191, -8192}}, "1 255 127 254 127 255 127");
        packs("three groups", new int[][] {{16384, 8192, -8193}}, "1 128 128 1 128 128 1 129 128 1");
        packs("three groups full", new int[][] {{2097151, 1048575, -1048576}}, "1 255 255 127 254 255 127 255 255 127");
        packs("four groups", new int[][] {{2097152, 1048576, -1048577}}, "1 128 128 128 1 128 128 128 1 129 128 128 1");
        packs("four groups full", new int[][] {{268435455, 0, 0}}, "1 255 255 255 127 0 0");
        packs("five groups", new int[][] {{268435456, 0, 0}}, "1 128 128 128 128 1 0 0");
    }

    private static void atTheEdges() {
        Check.sentence("SAMPLE: a TIME, 0 .. 2147483647, and x, y, -8388608 .. 8388608");
        packs("the last time", new int[][] {{LAST_TIME, FAR, -FAR}}, "1 255 255 255 255 7 128 128 128 8 255 255 255 7");
        packs("the widest moves", new int[][] {{0, -FAR, FAR}, {LAST_TIME, FAR, -FAR}},
                "2 0 255 255 255 7 128 128 128 8 255 255 255 255 7 128 128 128 16 255 255 255 15");
        int[][] twenty = new int[20][];
        for (int i = 0; i < 20; i++) {
            int side = i % 2 == 0 ? -FAR : FAR;
            twenty[i] = new int[] {i * 113025455, side, -side};
        }
        packs("twenty far ones", twenty, Oracle.toldBytes(Oracle.pack(twenty)));
    }

    private static void pack() {
        Check.sentence("Promise 10: A SEALED track is PACKED, in place of the bytes that there were: how many there are");
        DriftLog log = Made.mixed();
        Check.due("pack(3)", () -> log.pack(3), 4);
        Check.due("the bytes", () -> Made.bytes(log), "1 7 7 12");
        Check.due("pack(0)", () -> log.pack(0), 13);
        Check.due("the bytes then", () -> Made.bytes(log), "4 0 0 0 10 20 10 10 0 19 10 19 10");
        Check.due("pack(3) once more", () -> log.pack(3), 4);
        Check.due("the bytes once more", () -> Made.bytes(log), "1 7 7 12");
        Check.due("the tracks stay", () -> Made.track(log, 0) + ", " + Made.track(log, 1) + ", " + Made.track(log, 3), "2 4 1, 1 2 -1, 2 1 65535");
        Check.due("spans stay", () -> Made.spans(log), "2/1..8/1 11/1..14/1");
        DriftLog full = full(300);
        Made.fill(full, 0, new int[][] {{1, 1, 1}});
        full.seal(0, 0);
        Check.due("in place of 300", () -> full.pack(0), 4);
        Check.due("how many", () -> full.bytes(-1) + " " + full.bytes(3) + " " + full.bytes(4), "4 2 -1");
        DriftLog thin = Made.sealed(0, 65535, Made.twenty());
        Check.due("those that seal dropped are not packed", () -> thin.pack(0) + ": " + Made.bytes(thin), "8: 2 1 0 0 57 2 209 5");
    }

    private static void packNoTrack() {
        Check.sentence("Promise 10: IndexOutOfBoundsException if there is no such track");
        for (int id : Made.NO_TRACKS) {
            Check.refused("pack(" + id + ")", Made::mixed, log -> log.pack(id), Check.INDEX);
        }
    }

    private static void packNotSealed() {
        Check.sentence("Promise 10: IllegalStateException if it is not SEALED");
        Check.refused("pack when FREE", Made::mixed, log -> log.pack(2), Check.STATE);
        Check.refused("pack when OPEN", Made::mixed, log -> log.pack(1), Check.STATE);
        DriftLog log = Made.mixed();
        log.drop(3);
        Check.due("pack when dropped", () -> log.pack(3), Check.STATE);
        Check.due("the bytes that there were", () -> Made.bytes(log), "1 7 7 12 128 255");
    }

    private static void bytesInRange() {
        Check.sentence("Promise 11: Byte k, 0 .. 255");
        DriftLog log = Made.withBytes(0, 255, 128, 127, 1);
        Check.due("all bytes", () -> Made.bytes(log), "0 255 128 127 1");
        Check.due("the last of 300", () -> full(300).bytes(299), 43);
        Check.due("the first of 300", () -> full(300).bytes(0), 0);
    }

    private static void bytesCount() {
        Check.sentence("Promise 11: how many there are, if k is -1");
        Check.due("none", () -> new DriftLog().bytes(-1), 0);
        Check.due("one", () -> Made.withBytes(255).bytes(-1), 1);
        Check.due("300", () -> full(300).bytes(-1), 300);
    }

    private static void bytesNone() {
        Check.sentence("Promise 11: NONE if there is none such");
        for (int k : new int[] {2, 3, 299, 300, 301, -2, -3, Integer.MIN_VALUE, Integer.MAX_VALUE}) {
            Check.refused("bytes(" + k + ") of two", () -> Made.withBytes(5, 6), log -> log.bytes(k), -1);
            if (k < 0 || k > 299) {
                Check.due("bytes(" + k + ") of 300", () -> full(300).bytes(k), -1);
            }
        }
        Check.due("bytes(0) of none", () -> new DriftLog().bytes(0), -1);
        DriftLog cut = full(300);
        cut.cut(2);
        Check.due("bytes(2), cut", () -> cut.bytes(2), -1);
    }

    private static void put() {
        Check.sentence("Promise 12: The n lowest bytes of part, the highest of them first");
        String[] want = {"136", "135 136", "134 135 136", "133 134 135 136", "132 133 134 135 136", "131 132 133 134 135 136",
            "130 131 132 133 134 135 136", "129 130 131 132 133 134 135 136"};
        for (int n = 1; n <= 8; n++) {
            DriftLog log = new DriftLog();
            int each = n;
            Check.due("put(" + n + ", ..)", () -> log.put(each, PART), true);
            Check.due("bytes after put(" + n + ", ..)", () -> Made.bytes(log), want[n - 1]);
        }
        DriftLog log = new DriftLog();
        log.put(8, -1);
        log.put(8, 0);
        log.put(2, Long.MIN_VALUE);
        log.put(8, Long.MIN_VALUE);
        log.put(3, Long.MAX_VALUE);
        Check.due("the ends of long", () -> Made.bytes(log),
                "255 255 255 255 255 255 255 255 0 0 0 0 0 0 0 0 0 0 128 0 0 0 0 0 0 0 255 255 255");
    }

    private static void putToTheEnd() {
        Check.sentence("Promise 12: go to the end of the bytes: true");
        DriftLog log = Made.withBytes(7);
        Check.due("put(2, -2)", () -> log.put(2, -2), true);
        Check.due("the bytes", () -> Made.bytes(log), "7 255 254");
        log.cut(2);
        Check.due("put(1, 9) when cut", () -> log.put(1, 9), true);
        Check.due("the bytes then", () -> Made.bytes(log), "7 255 9");
        DriftLog packed = Made.mixed();
        packed.pack(3);
        Check.due("put(1, 300) behind what was packed", () -> packed.put(1, 300), true);
        Check.due("the bytes behind", () -> Made.bytes(packed), "1 7 7 12 44");
    }

    private static void putN() {
        Check.sentence("Promise 12: false if n is not 1 .. 8");
        for (int n : new int[] {0, 9, 10, -1, -8, Integer.MIN_VALUE, Integer.MAX_VALUE}) {
            Check.refused("put(" + n + ", ..)", Made::mixed, log -> log.put(n, PART), false);
            Check.refused("put(" + n + ", ..) to none", DriftLog::new, log -> log.put(n, PART), false);
        }
        Check.due("put(1, ..)", () -> Made.mixed().put(1, PART), true);
        Check.due("put(8, ..)", () -> Made.mixed().put(8, PART), true);
    }

    /** The bytes 0, 1, .. 255, 0, 1, .. */
    private static DriftLog full(int count) {
        DriftLog log = new DriftLog();
        for (int k = 0; k < count; k++) {
            log.put(1, k);
        }
        return log;
    }

    private static void putMoreThan300() {
        Check.sentence("Promise 12: false if .. there would be more than 300");
        for (int n = 1; n <= 8; n++) {
            int each = n;
            DriftLog fits = full(300 - n);
            Check.due("put(" + n + ", ..) to " + (300 - n), () -> fits.put(each, PART), true);
            Check.due("how many, and the last", () -> fits.bytes(-1) + " " + fits.bytes(299) + " " + fits.bytes(300), "300 136 -1");
            DriftLog log = full(301 - n);
            Check.due("put(" + n + ", ..) to " + (301 - n), () -> log.put(each, PART), false);
            Check.due("how many, and the next", () -> log.bytes(-1) + " " + log.bytes(301 - each), (301 - n) + " -1");
            Check.due("the one before", () -> log.bytes(300 - each), (300 - n) % 256);
        }
        DriftLog log = full(300);
        Check.due("put(0, ..) to 300", () -> log.put(0, PART), false);
        Check.due("put(1, ..) to 300", () -> log.put(1, PART), false);
        log.cut(299);
        Check.due("put(2, ..) to 299", () -> log.put(2, PART), false);
        Check.due("put(1, ..) to 299", () -> log.put(1, 77), true);
        Check.due("the last", () -> log.bytes(299), 77);
    }

    private static void cut() {
        Check.sentence("Promise 13: Of the bytes the first n stay alone: true");
        DriftLog log = Made.withBytes(5, 6, 7);
        Check.due("cut(3)", () -> log.cut(3), true);
        Check.due("bytes after cut(3)", () -> Made.bytes(log), "5 6 7");
        Check.due("cut(1)", () -> log.cut(1), true);
        Check.due("bytes after cut(1)", () -> Made.bytes(log), "5");
        Check.due("a byte that was cut", () -> log.bytes(1), -1);
        Check.due("cut(0)", () -> log.cut(0), true);
        Check.due("bytes after cut(0)", () -> log.bytes(-1) + " " + log.bytes(0), "0 -1");
        DriftLog full = full(300);
        Check.due("cut(300)", () -> full.cut(300), true);
        Check.due("300 stay", () -> full.bytes(-1) + " " + full.bytes(299), "300 43");
        Check.due("cut(299)", () -> full.cut(299), true);
        Check.due("299 stay", () -> full.bytes(-1) + " " + full.bytes(298) + " " + full.bytes(299), "299 42 -1");
    }

    private static void cutTooMany() {
        Check.sentence("Promise 13: false if there are not so many");
        for (int n : new int[] {4, 5, 300, 301, Integer.MAX_VALUE}) {
            Check.refused("cut(" + n + ") of three", () -> Made.withBytes(5, 6, 7), log -> log.cut(n), false);
        }
        Check.due("cut(301) of 300", () -> full(300).cut(301), false);
        DriftLog log = Made.withBytes(5, 6, 7);
        log.cut(1);
        Check.due("cut(2) brings none back", () -> log.cut(2), false);
        Check.due("the bytes", () -> Made.bytes(log), "5");
    }

    private static void cutBelowZero() {
        Check.sentence("Promise 13: false if .. n is below 0");
        for (int n : new int[] {-1, -2, -3, -300, Integer.MIN_VALUE}) {
            Check.refused("cut(" + n + ") of three", () -> Made.withBytes(5, 6, 7), log -> log.cut(n), false);
            Check.refused("cut(" + n + ") of none", DriftLog::new, log -> log.cut(n), false);
        }
    }

    private static void cutOfNone() {
        Check.sentence("Promise 13: Of the bytes the first n stay alone");
        Check.due("cut(0) of none", () -> new DriftLog().cut(0), true);
        Check.due("cut(1) of none", () -> new DriftLog().cut(1), false);
    }
}
