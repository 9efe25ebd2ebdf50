/** Promises 10 to 13: pack, bytes, put, cut. */
public final class BytesTest {
    private static final int LAST_TIME = Made.LAST_TIME;
    private static final int FAR = Made.FAR;

    public static void main(String[] args) {
        packRefused();
        packing();
        groups();
        packedAtTheEdges();
        bytes();
        putting();
        puttingToTheEnd();
        cutting();
        Check.end();
    }

    private static void packRefused() {
        DriftLog log = Made.withBytes(1, 2, 3);
        for (int id : new int[] {-1, 4, Integer.MIN_VALUE, Integer.MAX_VALUE}) {
            Check.due("pack(" + id + ")", () -> log.pack(id), Check.INDEX);
        }
        Check.due("pack when FREE", () -> log.pack(0), Check.STATE);
        Made.fill(log, 0, new int[][] {{1, 2, 3}});
        Check.due("pack when OPEN", () -> log.pack(0), Check.STATE);
        Check.due("bytes after refused packs", () -> Made.bytes(log), "1 2 3");
    }

    private static void packs(String what, int[][] samples, String want) {
        DriftLog log = Made.sealed(1, 0, samples);
        Made.putAll(log, 9, 9, 9, 9, 9, 9, 9, 9, 9, 9, 9, 9, 9, 9, 9, 9, 9, 9, 9, 9);
        Check.due(what + ": pack", () -> log.pack(1), want.split(" ").length);
        Check.due(what + ": bytes", () -> Made.bytes(log), want);
        Check.due(what + ": the track stays", () -> Made.samples(log, 1), Oracle.told(samples));
    }

    private static void packing() {
        packs("one", new int[][] {{0, 0, 0}}, "1 0 0 0");
        packs("signs", new int[][] {{1, 1, -1}}, "1 1 2 1");
        packs("differences", new int[][] {{5, 10, -10}, {7, 7, -5}, {8, 8, -8}}, "3 5 20 19 2 5 10 1 2 5");
    }

    private static void groups() {
        packs("127 and 63", new int[][] {{127, 63, -64}}, "1 127 126 127");
        packs("128 and 64", new int[][] {{128, 64, -65}}, "1 128 1 128 1 129 1");
        packs("two groups full", new int[][] {{16383, 8191, -8192}}, "1 255 127 254 127 255 127");
        packs("three groups", new int[][] {{16384, 8192, -8193}}, "1 128 128 1 128 128 1 129 128 1");
    }

    private static void packedAtTheEdges() {
        packs("the last time", new int[][] {{LAST_TIME, FAR, -FAR}}, "1 255 255 255 255 7 128 128 128 8 255 255 255 7");
        packs("the widest moves", new int[][] {{0, -FAR, FAR}, {LAST_TIME, FAR, -FAR}},
                "2 0 255 255 255 7 128 128 128 8 255 255 255 255 7 128 128 128 16 255 255 255 15");
        int[][] twenty = new int[20][];
        for (int i = 0; i < 20; i++) {
            int side = i % 2 == 0 ? -FAR : FAR;
            twenty[i] = new int[] {i * 113025455, side, -side};
        }
        packs("twenty far ones", twenty, Oracle.toldBytes(Oracle.pack(twenty)));
    }

    private static void bytes() {
        DriftLog log = Made.withBytes(0, 255, 128, 127);
        Check.due("bytes(-1)", () -> log.bytes(-1), 4);
        Check.due("all bytes", () -> Made.bytes(log), "0 255 128 127");
        for (int k : new int[] {4, 299, 300, 301, -2, Integer.MIN_VALUE, Integer.MAX_VALUE}) {
            Check.due("bytes(" + k + ")", () -> log.bytes(k), -1);
        }
    }

    private static void putting() {
        long part = 0x8182838485868788L;
        String[] want = {"136", "135 136", "134 135 136", "133 134 135 136", "132 133 134 135 136", "131 132 133 134 135 136",
            "130 131 132 133 134 135 136", "129 130 131 132 133 134 135 136"};
        for (int n = 1; n <= 8; n++) {
            DriftLog log = new DriftLog();
            int each = n;
            Check.due("put(" + n + ", ..)", () -> log.put(each, part), true);
            Check.due("bytes after put(" + n + ", ..)", () -> Made.bytes(log), want[n - 1]);
        }
        DriftLog log = Made.withBytes(7);
        for (int n : new int[] {0, 9, -1, Integer.MIN_VALUE, Integer.MAX_VALUE}) {
            Check.due("put(" + n + ", ..)", () -> log.put(n, part), false);
        }
        Check.due("bytes after refused puts", () -> Made.bytes(log), "7");
        Check.due("put to the end", () -> log.put(2, -2L), true);
        Check.due("bytes after a put to the end", () -> Made.bytes(log), "7 255 254");
    }

    private static void puttingToTheEnd() {
        DriftLog log = new DriftLog();
        for (int i = 0; i < 37; i++) {
            log.put(8, i);
        }
        Check.due("296 bytes", () -> log.bytes(-1), 296);
        Check.due("five are too many", () -> log.put(5, 0x0102030405L), false);
        Check.due("still 296 bytes", () -> log.bytes(-1) + " " + log.bytes(296), "296 -1");
        Check.due("four fit", () -> log.put(4, 0x01020304L), true);
        Check.due("the last byte", () -> log.bytes(299) + " " + log.bytes(300), "4 -1");
        Check.due("one is too many", () -> log.put(1, 1), false);
        Check.due("300 bytes", () -> log.bytes(-1), 300);
        Check.due("cut(301)", () -> log.cut(301), false);
        Check.due("cut(300)", () -> log.cut(300), true);
        Check.due("cut(299)", () -> log.cut(299), true);
        Check.due("two are too many", () -> log.put(2, 1), false);
        Check.due("one fits", () -> log.put(1, 77), true);
        Check.due("the one", () -> log.bytes(299), 77);
    }

    private static void cutting() {
        DriftLog log = Made.withBytes(5, 6, 7);
        for (int n : new int[] {4, -1, 300, Integer.MIN_VALUE, Integer.MAX_VALUE}) {
            Check.due("cut(" + n + ")", () -> log.cut(n), false);
        }
        Check.due("bytes after refused cuts", () -> Made.bytes(log), "5 6 7");
        Check.due("cut(3)", () -> log.cut(3), true);
        Check.due("bytes after cut(3)", () -> Made.bytes(log), "5 6 7");
        Check.due("cut(1)", () -> log.cut(1), true);
        Check.due("bytes after cut(1)", () -> Made.bytes(log), "5");
        Check.due("a byte that was cut", () -> log.bytes(1), -1);
        Check.due("cut(2) brings none back", () -> log.cut(2), false);
        Check.due("cut(0)", () -> log.cut(0), true);
        Check.due("bytes after cut(0)", () -> log.bytes(-1), 0);
        Check.due("cut(0) of none", () -> log.cut(0), true);
        Check.due("cut(1) of none", () -> log.cut(1), false);
    }
}
