/** Promises 1 to 3 and 6 to 8: a new object, open, add, drop, track, sample. */
public final class TracksTest {
    private static final int LAST_TIME = Made.LAST_TIME;
    private static final int FAR = Made.FAR;
    private static final int[] NO_TRACKS = {-1, 4, 5, Integer.MIN_VALUE, Integer.MAX_VALUE};

    public static void main(String[] args) {
        newObject();
        opening();
        adding();
        addingAtTheEdges();
        addingTwenty();
        dropping();
        asking();
        samples();
        refusedChangesNothing();
        Check.end();
    }

    private static void newObject() {
        DriftLog log = new DriftLog();
        for (int id = 0; id < 4; id++) {
            int each = id;
            Check.due("new: track(" + id + ", 0)", () -> log.track(each, 0), 0);
            Check.due("new: track(" + id + ", 1)", () -> log.track(each, 1), 0);
            Check.due("new: track(" + id + ", 2)", () -> log.track(each, 2), -1);
        }
        Check.due("new: bytes(-1)", () -> log.bytes(-1), 0);
        Check.due("new: bytes(0)", () -> log.bytes(0), -1);
        Check.due("new: span(0, ..)", () -> log.span(0, false, false), Check.INDEX);
    }

    private static void opening() {
        DriftLog log = new DriftLog();
        for (int id : NO_TRACKS) {
            Check.dueNothing("open(" + id + ")", () -> log.open(id), Check.INDEX);
        }
        for (int id = 0; id < 4; id++) {
            int each = id;
            Check.dueNothing("open(" + id + ")", () -> log.open(each), "nothing");
            Check.due("track(" + id + ", 0) when OPEN", () -> log.track(each, 0), 1);
            Check.due("track(" + id + ", 1) when OPEN", () -> log.track(each, 1), 0);
            Check.due("track(" + id + ", 2) when OPEN", () -> log.track(each, 2), -1);
            Check.dueNothing("open(" + id + ") when OPEN", () -> log.open(each), Check.STATE);
        }
        log.add(0, 1, 1, 1);
        log.seal(0, 5);
        Check.dueNothing("open(0) when SEALED", () -> log.open(0), Check.STATE);
        log.drop(0);
        Check.dueNothing("open(0) when dropped", () -> log.open(0), "nothing");
        Check.due("samples of a track that is opened again", () -> log.track(0, 1), 0);
        Check.due("bound of a track that is opened again", () -> log.track(0, 2), -1);
    }

    private static void adding() {
        DriftLog log = new DriftLog();
        for (int id : NO_TRACKS) {
            Check.due("add(" + id + ", ..)", () -> log.add(id, -1, 0, 0), Check.INDEX);
        }
        Check.due("add when FREE", () -> log.add(2, -1, 0, 0), Check.STATE);
        log.open(2);
        Check.due("the first", () -> log.add(2, 10, 1, -2), 1);
        Check.due("the same time", () -> log.add(2, 10, 5, 5), Check.ARGUMENT);
        Check.due("a time before", () -> log.add(2, 9, 5, 5), Check.ARGUMENT);
        Check.due("the next time", () -> log.add(2, 11, 3, 4), 2);
        Check.due("its samples", () -> Made.samples(log, 2), "10,1,-2 11,3,4");
        log.seal(2, 0);
        Check.due("add when SEALED", () -> log.add(2, 12, 0, 0), Check.STATE);
        Check.due("other tracks have no samples", () -> log.track(1, 1) + log.track(3, 1), 0);
    }

    private static void addingAtTheEdges() {
        DriftLog log = new DriftLog();
        log.open(0);
        Check.due("time -1", () -> log.add(0, -1, 0, 0), Check.ARGUMENT);
        Check.due("the least time", () -> log.add(0, Integer.MIN_VALUE, 0, 0), Check.ARGUMENT);
        Check.due("x above", () -> log.add(0, 0, FAR + 1, 0), Check.ARGUMENT);
        Check.due("x below", () -> log.add(0, 0, -FAR - 1, 0), Check.ARGUMENT);
        Check.due("y above", () -> log.add(0, 0, 0, FAR + 1), Check.ARGUMENT);
        Check.due("y below", () -> log.add(0, 0, 0, -FAR - 1), Check.ARGUMENT);
        Check.due("x least int", () -> log.add(0, 0, Integer.MIN_VALUE, 0), Check.ARGUMENT);
        Check.due("y least int", () -> log.add(0, 0, 0, Integer.MIN_VALUE), Check.ARGUMENT);
        Check.due("x greatest int", () -> log.add(0, 0, Integer.MAX_VALUE, 0), Check.ARGUMENT);
        Check.due("time 0, least x, greatest y", () -> log.add(0, 0, -FAR, FAR), 1);
        Check.due("last time, greatest x, least y", () -> log.add(0, LAST_TIME, FAR, -FAR), 2);
        Check.due("no time is left", () -> log.add(0, LAST_TIME, 0, 0), Check.ARGUMENT);
        Check.due("samples at the edges", () -> Made.samples(log, 0), "0,-8388608,8388608 2147483647,8388608,-8388608");
    }

    private static void addingTwenty() {
        DriftLog log = new DriftLog();
        log.open(3);
        for (int i = 0; i < 20; i++) {
            int each = i;
            Check.due("sample " + i + " of 20", () -> log.add(3, each * 7, each, -each), i + 1);
        }
        Check.due("a 21st", () -> log.add(3, 1000, 0, 0), Check.STATE);
        Check.due("a 21st with wrong numbers", () -> log.add(3, -1, FAR + 1, 0), Check.STATE);
        Check.due("still 20", () -> log.track(3, 1), 20);
        Check.due("the last one", () -> log.sample(3, 19, 0) + " " + log.sample(3, 19, 1) + " " + log.sample(3, 19, 2), "133 19 -19");
    }

    private static void dropping() {
        DriftLog log = new DriftLog();
        for (int id : NO_TRACKS) {
            Check.due("drop(" + id + ")", () -> log.drop(id), false);
        }
        Check.due("drop when FREE", () -> log.drop(0), false);
        log.open(0);
        Check.due("drop when OPEN", () -> log.drop(0), true);
        Check.due("drop once more", () -> log.drop(0), false);
        Made.fill(log, 0, new int[][] {{1, 2, 3}, {4, 5, 60}});
        Made.fill(log, 1, new int[][] {{7, 8, 9}});
        log.seal(0, 4);
        log.pack(0);
        log.spans(0, 0, 0, 9, 9);
        String spans = Made.spans(log);
        String bytes = Made.bytes(log);
        Check.due("drop when SEALED", () -> log.drop(0), true);
        Check.due("state, samples and bound of a dropped track", () -> log.track(0, 0) + " " + log.track(0, 1) + " " + log.track(0, 2), "0 0 -1");
        Check.due("a sample of a dropped track", () -> log.sample(0, 0, 0), Check.INDEX);
        Check.due("bytes stay when a track is dropped", () -> Made.bytes(log), bytes);
        Check.due("spans stay when a track is dropped", () -> Made.spans(log), spans);
        Check.due("another track stays", () -> log.track(1, 0) + " " + Made.samples(log, 1), "1 7,8,9");
    }

    private static void asking() {
        DriftLog log = Made.sealed(1, 9, new int[][] {{1, 2, 3}, {4, 5, 6}});
        for (int id : NO_TRACKS) {
            for (int w = -1; w < 4; w++) {
                int each = w;
                Check.due("track(" + id + ", " + w + ")", () -> log.track(id, each), -1);
            }
        }
        for (int w : new int[] {-1, 3, Integer.MIN_VALUE, Integer.MAX_VALUE}) {
            Check.due("track(1, " + w + ")", () -> log.track(1, w), -1);
        }
        Check.due("track of a SEALED one", () -> log.track(1, 0) + " " + log.track(1, 1) + " " + log.track(1, 2), "2 2 9");
        DriftLog zero = Made.sealed(1, 0, new int[][] {{1, 2, 3}});
        Check.due("a bound of 0", () -> zero.track(1, 2), 0);
    }

    private static void samples() {
        DriftLog log = Made.open(2, new int[][] {{1, -2, 3}, {4, 5, -6}});
        for (int id : NO_TRACKS) {
            Check.due("sample(" + id + ", 0, 0)", () -> log.sample(id, 0, 0), Check.INDEX);
        }
        Check.due("a sample of a FREE track", () -> log.sample(1, 0, 0), Check.INDEX);
        for (int i : new int[] {-1, 2, 19, 20, Integer.MIN_VALUE, Integer.MAX_VALUE}) {
            Check.due("sample(2, " + i + ", 0)", () -> log.sample(2, i, 0), Check.INDEX);
        }
        for (int w : new int[] {-1, 3, Integer.MIN_VALUE, Integer.MAX_VALUE}) {
            Check.due("sample(2, 0, " + w + ")", () -> log.sample(2, 0, w), Check.INDEX);
        }
        Check.due("samples of an OPEN track", () -> Made.samples(log, 2), "1,-2,3 4,5,-6");
        log.seal(2, 0);
        Check.due("samples of a SEALED track", () -> Made.samples(log, 2), "1,-2,3 4,5,-6");
    }

    private static void refusedChangesNothing() {
        DriftLog log = Made.sealed(0, 3, new int[][] {{0, 0, 0}, {10, 10, 10}});
        Made.fill(log, 1, new int[][] {{5, 5, 5}});
        log.pack(0);
        log.spans(0, 2, 2, 4, 4);
        String before = Made.all(log);
        Check.told(() -> log.add(1, 5, 0, 0));
        Check.told(() -> log.add(1, 6, FAR + 1, 0));
        Check.told(() -> log.add(0, 50, 0, 0));
        Check.told(() -> log.add(2, 50, 0, 0));
        Check.told(() -> log.drop(2));
        Check.told(() -> log.sample(0, 7, 0));
        Check.dueNothing("open(1)", () -> log.open(1), Check.STATE);
        Check.dueNothing("open(0)", () -> log.open(0), Check.STATE);
        Check.due("all after refused calls", () -> Made.all(log), before);
    }
}
