/** Promises 4 and 5: seal and again. */
public final class ThinTest {
    private static final int LAST_TIME = Made.LAST_TIME;
    private static final int FAR = Made.FAR;

    public static void main(String[] args) {
        sealRefused();
        againRefused();
        sealedState();
        boundIsClosed();
        boundOnEachAxis();
        timesCount();
        fewestNotGreedy();
        leastPlaces();
        exactAtTheEdges();
        againThinsWhatIsKept();
        againAddsBounds();
        Check.end();
    }

    private static void sealRefused() {
        DriftLog log = new DriftLog();
        for (int id : new int[] {-1, 4, Integer.MIN_VALUE, Integer.MAX_VALUE}) {
            Check.due("seal(" + id + ", -1)", () -> log.seal(id, -1), Check.INDEX);
        }
        Check.due("seal when FREE", () -> log.seal(0, -1), Check.STATE);
        log.open(0);
        Check.due("seal without samples", () -> log.seal(0, 65536), Check.STATE);
        log.add(0, 1, 2, 3);
        String before = Made.all(log);
        for (int e : new int[] {-1, 65536, Integer.MIN_VALUE, Integer.MAX_VALUE}) {
            Check.due("seal(0, " + e + ")", () -> log.seal(0, e), Check.ARGUMENT);
        }
        Check.due("all after refused seals", () -> Made.all(log), before);
        Check.due("seal(0, 65535)", () -> log.seal(0, 65535), 1);
        Check.due("seal when SEALED", () -> log.seal(0, 0), Check.STATE);
        Check.due("the bound is still the first one", () -> log.track(0, 2), 65535);
    }

    private static void againRefused() {
        DriftLog log = new DriftLog();
        for (int id : new int[] {-1, 4, Integer.MIN_VALUE, Integer.MAX_VALUE}) {
            Check.due("again(" + id + ", -1)", () -> log.again(id, -1), Check.INDEX);
        }
        Check.due("again when FREE", () -> log.again(0, -1), Check.STATE);
        Made.fill(log, 0, new int[][] {{0, 0, 0}, {1, 70000, 0}, {2, 0, 0}});
        Check.due("again when OPEN", () -> log.again(0, -1), Check.STATE);
        log.seal(0, 1);
        String before = Made.all(log);
        for (int e : new int[] {-1, 65535, 65536, Integer.MIN_VALUE, Integer.MAX_VALUE, Integer.MAX_VALUE - 1}) {
            Check.due("again(0, " + e + ")", () -> log.again(0, e), Check.ARGUMENT);
        }
        Check.due("all after refused agains", () -> Made.all(log), before);
        Check.due("again(0, 65534)", () -> log.again(0, 65534), 3);
        Check.due("the greatest bound", () -> log.track(0, 2), 65535);
        Check.due("again(0, 1) at the greatest bound", () -> log.again(0, 1), Check.ARGUMENT);
        Check.due("again(0, 0) at the greatest bound", () -> log.again(0, 0), 3);
        Check.due("the bound then", () -> log.track(0, 2), 65535);
    }

    private static void sealedState() {
        DriftLog log = Made.open(2, new int[][] {{1, 2, 3}, {9, 8, 7}});
        Check.due("seal of two", () -> log.seal(2, 12), 2);
        Check.due("state and bound", () -> log.track(2, 0) + " " + log.track(2, 2), "2 12");
        Check.due("both stay", () -> Made.samples(log, 2), "1,2,3 9,8,7");
        Check.due("other tracks stay FREE", () -> log.track(0, 0) + log.track(1, 0) + log.track(3, 0), 0);
        DriftLog one = Made.open(0, new int[][] {{5, 6, 7}});
        Check.due("seal of one", () -> one.seal(0, 0), 1);
        Check.due("again of one", () -> one.again(0, 5), 1);
        Check.due("the one", () -> Made.samples(one, 0), "5,6,7");
    }

    private static void thins(String what, int e, int[][] samples, String want) {
        DriftLog log = Made.open(0, samples);
        int count = want.split(" ").length;
        Check.due(what + ": seal", () -> log.seal(0, e), count);
        Check.due(what + ": kept", () -> Made.samples(log, 0), want);
    }

    private static void boundIsClosed() {
        thins("just within, up", 5, new int[][] {{0, 0, 0}, {1, 5, 0}, {2, 0, 0}}, "0,0,0 2,0,0");
        thins("just beyond, up", 5, new int[][] {{0, 0, 0}, {1, 6, 0}, {2, 0, 0}}, "0,0,0 1,6,0 2,0,0");
        thins("just within, down", 5, new int[][] {{0, 0, 0}, {1, -5, 0}, {2, 0, 0}}, "0,0,0 2,0,0");
        thins("just beyond, down", 5, new int[][] {{0, 0, 0}, {1, -6, 0}, {2, 0, 0}}, "0,0,0 1,-6,0 2,0,0");
        thins("half beyond", 5, new int[][] {{0, 0, 0}, {1, -5, 0}, {2, 1, 0}}, "0,0,0 1,-5,0 2,1,0");
        thins("half within", 5, new int[][] {{0, 0, 0}, {1, 5, 0}, {2, 1, 0}}, "0,0,0 2,1,0");
        thins("e 0 on the line", 0, new int[][] {{0, 0, 0}, {1, 3, -3}, {3, 9, -9}}, "0,0,0 3,9,-9");
        thins("e 0 a third off", 0, new int[][] {{0, 0, 0}, {1, 3, -3}, {3, 10, -9}}, "0,0,0 1,3,-3 3,10,-9");
    }

    private static void boundOnEachAxis() {
        thins("y just within", 5, new int[][] {{0, 0, 0}, {1, 0, 5}, {2, 0, 0}}, "0,0,0 2,0,0");
        thins("y just beyond", 5, new int[][] {{0, 0, 0}, {1, 0, 6}, {2, 0, 0}}, "0,0,0 1,0,6 2,0,0");
        thins("both within, farther than e in all", 5, new int[][] {{0, 0, 0}, {1, 5, -5}, {2, 0, 0}}, "0,0,0 2,0,0");
    }

    private static void timesCount() {
        thins("on the line in space, not in time", 5, new int[][] {{0, 0, 0}, {1, 50, 0}, {10, 100, 0}}, "0,0,0 1,50,0 10,100,0");
        thins("at its own time", 5, new int[][] {{0, 0, 0}, {1, 15, 0}, {10, 100, 0}}, "0,0,0 10,100,0");
    }

    private static void fewestNotGreedy() {
        // The farthest step from place 0 is to place 2, but from there no step goes to the end.
        thins("the farthest step is too far", 1, new int[][] {{0, 5, 0}, {1, 6, 0}, {2, 5, 0}, {3, 7, 0}, {4, 6, 0}},
                "0,5,0 1,6,0 4,6,0");
        int[][] zigzag = {{0, 0, 0}, {1, 4, 0}, {2, 0, 4}, {3, 4, 0}, {4, 0, 4}, {5, 9, 9}, {6, 0, 0}};
        for (int e = 0; e < 10; e++) {
            thins("zigzag with " + e, e, zigzag, Oracle.told(Oracle.thin(zigzag, e)));
        }
    }

    private static void leastPlaces() {
        // Places 1 and 2 would both do as the only one between: the lesser is kept.
        thins("the lesser of two", 3, new int[][] {{0, 0, 0}, {1, 6, 0}, {2, 6, 0}, {3, 0, 0}}, "0,0,0 1,6,0 3,0,0");
        int[][] flat = {{0, 0, 0}, {1, 0, 0}, {2, 1, 0}, {3, 1, 0}, {4, 0, 0}, {5, 0, 0}, {6, 5, 0}, {7, 5, 0}};
        thins("flat", 1, flat, Oracle.told(Oracle.thin(flat, 1)));
    }

    private static void exactAtTheEdges() {
        int half = 1 << 30;
        // At half + 1 of LAST_TIME the motion from -FAR to FAR is at FAR / LAST_TIME, just above 0.
        thins("a tiny part within", 3, new int[][] {{0, -FAR, 0}, {half, 3, 0}, {LAST_TIME, FAR, 0}}, "0,-8388608,0 2147483647,8388608,0");
        thins("a tiny part beyond", 3, new int[][] {{0, -FAR, 0}, {half, -3, 0}, {LAST_TIME, FAR, 0}},
                "0,-8388608,0 1073741824,-3,0 2147483647,8388608,0");
        thins("the widest swing", 65535, new int[][] {{0, -FAR, FAR}, {half, FAR, -FAR}, {LAST_TIME, -FAR, FAR}},
                "0,-8388608,8388608 1073741824,8388608,-8388608 2147483647,-8388608,8388608");
        thins("the greatest e, just within", 65535, new int[][] {{0, 0, 0}, {half, 65535, -65535}, {LAST_TIME, 0, 0}}, "0,0,0 2147483647,0,0");
        thins("the greatest e, just beyond", 65535, new int[][] {{0, 0, 0}, {half, 65535, -65536}, {LAST_TIME, 0, 0}},
                "0,0,0 1073741824,65535,-65536 2147483647,0,0");
    }

    private static void againThinsWhatIsKept() {
        // 3 was within 2 of the first motion; it is no longer asked for when the kept ones are thinned.
        int[][] samples = {{0, 0, 0}, {1, 2, 0}, {2, 0, 0}, {3, 3, 0}, {4, 0, 0}};
        DriftLog log = Made.sealed(1, 2, samples);
        int[][] kept = Oracle.thin(samples, 2);
        Check.due("kept at first", () -> Made.samples(log, 1), Oracle.told(kept));
        int[][] fewer = Oracle.thin(kept, 3);
        Check.due("again(1, 3)", () -> log.again(1, 3), fewer.length);
        Check.due("kept then", () -> Made.samples(log, 1), Oracle.told(fewer));
        Check.due("the bound is the sum", () -> log.track(1, 2), 5);
    }

    private static void againAddsBounds() {
        DriftLog log = Made.sealed(0, 10, new int[][] {{0, 0, 0}, {1, 100, 0}, {2, 0, 0}});
        Check.due("again with too little", () -> log.again(0, 99), 3);
        Check.due("bound 109", () -> log.track(0, 2), 109);
        Check.due("again thins with e, not with the bound", () -> log.again(0, 99), 3);
        Check.due("again with enough", () -> log.again(0, 100), 2);
        Check.due("bound 308", () -> log.track(0, 2), 308);
        Check.due("still SEALED", () -> log.track(0, 0), 2);
        Check.due("again with 0", () -> log.again(0, 0), 2);
        Check.due("kept at last", () -> Made.samples(log, 0), "0,0,0 2,0,0");
    }
}
