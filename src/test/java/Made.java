/** Objects in the states that tests begin with, and their state told as text. */
final class Made {
    static final int LAST_TIME = Integer.MAX_VALUE;
    static final int FAR = 8388608;
    static final int FRAME_FAR = 16777216;
    static final int[] NO_TRACKS = {-1, 4, 5, Integer.MIN_VALUE, Integer.MAX_VALUE};

    private Made() {
    }

    static DriftLog open(int id, int[][] samples) {
        DriftLog log = new DriftLog();
        fill(log, id, samples);
        return log;
    }

    static DriftLog sealed(int id, int e, int[][] samples) {
        DriftLog log = open(id, samples);
        log.seal(id, e);
        return log;
    }

    static void fill(DriftLog log, int id, int[][] samples) {
        log.open(id);
        for (int[] s : samples) {
            log.add(id, s[0], s[1], s[2]);
        }
    }

    /** Track 0 is SEALED, 1 OPEN, 2 FREE, 3 SEALED with the greatest bound; there are bytes and two spans. */
    static DriftLog mixed() {
        DriftLog log = sealed(0, 1, new int[][] {{0, 0, 0}, {10, 10, 5}, {20, 10, -5}, {30, 0, 0}});
        fill(log, 1, new int[][] {{5, 5, 5}, {6, 7, 8}});
        fill(log, 3, new int[][] {{7, -4, 6}});
        log.seal(3, 65535);
        log.pack(3);
        log.put(2, 0x80FF);
        log.spans(0, 0, 2, 100, 3);
        return log;
    }

    /** Twenty samples of which none can be dropped with e 0. */
    static int[][] twenty() {
        int[][] samples = new int[20][];
        for (int i = 0; i < 20; i++) {
            samples[i] = new int[] {3 * i + 1, i % 2, -i * i};
        }
        return samples;
    }

    /** So that a call without an answer can be told, too. */
    static String opened(DriftLog log, int id) {
        log.open(id);
        return "nothing";
    }

    /** State, how many samples and bound. */
    static String track(DriftLog log, int id) {
        return log.track(id, 0) + " " + log.track(id, 1) + " " + log.track(id, 2);
    }

    static DriftLog withBytes(int... bytes) {
        DriftLog log = new DriftLog();
        putAll(log, bytes);
        return log;
    }

    static void putAll(DriftLog log, int... bytes) {
        for (int b : bytes) {
            log.put(1, b);
        }
    }

    static String samples(DriftLog log, int id) {
        StringBuilder told = new StringBuilder();
        int count = log.track(id, 1);
        for (int i = 0; i < count; i++) {
            told.append(i == 0 ? "" : " ");
            told.append(log.sample(id, i, 0)).append(',').append(log.sample(id, i, 1)).append(',').append(log.sample(id, i, 2));
        }
        return told.toString();
    }

    static String bytes(DriftLog log) {
        StringBuilder told = new StringBuilder();
        int count = log.bytes(-1);
        for (int k = 0; k < count; k++) {
            told.append(k == 0 ? "" : " ").append(log.bytes(k));
        }
        return told.toString();
    }

    static String spans(DriftLog log) {
        StringBuilder told = new StringBuilder();
        for (int i = 0; Check.told(spanCall(log, i)).indexOf("throws") < 0; i++) {
            told.append(i == 0 ? "" : " ");
            told.append(log.span(i, false, false)).append('/').append(log.span(i, false, true));
            told.append("..").append(log.span(i, true, false)).append('/').append(log.span(i, true, true));
        }
        return told.toString();
    }

    private static Check.Call spanCall(DriftLog log, int i) {
        return () -> log.span(i, false, false);
    }

    static String tracks(DriftLog log) {
        StringBuilder told = new StringBuilder();
        for (int id = 0; id < 4; id++) {
            told.append(log.track(id, 0)).append(' ').append(log.track(id, 2)).append(": ").append(samples(log, id)).append("; ");
        }
        return told.toString();
    }

    /** All that can be asked of an object, so that a refused call can be shown to change nothing. */
    static String all(DriftLog log) {
        return tracks(log) + bytes(log) + "; " + spans(log);
    }

    static String fraction(DriftLog log, int id, int t, boolean y) {
        return log.place(id, t, y, false) + "/" + log.place(id, t, y, true);
    }
}
