/** Objects in the states that tests begin with, and their state told as text. */
final class Made {
    static final int LAST_TIME = Integer.MAX_VALUE;
    static final int FAR = 8388608;

    private Made() {
    }

    static DriftLog open(int id, int[][] samples) {
        DriftLog log = new DriftLog();
        fill(log, id, samples);
        return log;
    }

    static DriftLog sealed(int id, int e, int[][] samples) {
        DriftLog log = open(id, samples);
        log.seal(id, e);
        return log;
    }

    static void fill(DriftLog log, int id, int[][] samples) {
        log.open(id);
        for (int[] s : samples) {
            log.add(id, s[0], s[1], s[2]);
        }
    }

    static DriftLog withBytes(int... bytes) {
        DriftLog log = new DriftLog();
        putAll(log, bytes);
        return log;
    }

    static void putAll(DriftLog log, int... bytes) {
        for (int b : bytes) {
            log.put(1, b);
        }
    }

    static String samples(DriftLog log, int id) {
        StringBuilder told = new StringBuilder();
        for (int i = 0; i < log.track(id, 1); i++) {
            told.append(i == 0 ? "" : " ");
            told.append(log.sample(id, i, 0)).append(',').append(log.sample(id, i, 1)).append(',').append(log.sample(id, i, 2));
        }
        return told.toString();
    }

    static String bytes(DriftLog log) {
        StringBuilder told = new StringBuilder();
        for (int k = 0; k < log.bytes(-1); k++) {
            told.append(k == 0 ? "" : " ").append(log.bytes(k));
        }
        return told.toString();
    }

    static String spans(DriftLog log) {
        StringBuilder told = new StringBuilder();
        for (int i = 0; Check.told(spanCall(log, i)).indexOf("throws") < 0; i++) {
            told.append(i == 0 ? "" : " ");
            told.append(log.span(i, false, false)).append('/').append(log.span(i, false, true));
            told.append("..").append(log.span(i, true, false)).append('/').append(log.span(i, true, true));
        }
        return told.toString();
    }

    private static Check.Call spanCall(DriftLog log, int i) {
        return () -> log.span(i, false, false);
    }

    /** All that can be asked of an object, so that a refused call can be shown to change nothing. */
    static String all(DriftLog log) {
        StringBuilder told = new StringBuilder();
        for (int id = 0; id < 4; id++) {
            told.append(log.track(id, 0)).append(' ').append(log.track(id, 2)).append(": ").append(samples(log, id)).append("; ");
        }
        return told.append(bytes(log)).append("; ").append(spans(log)).toString();
    }

    static String fraction(DriftLog log, int id, int t, boolean y) {
        return log.place(id, t, y, false) + "/" + log.place(id, t, y, true);
    }
}
