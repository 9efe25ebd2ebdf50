import java.util.ArrayList;
import java.util.List;
import java.util.Random;

/** Long runs of calls on one object, each answer compared with a plain model of the document. */
public final class ModelTest {
    private static final int RUNS = 600;
    private static final int MOST_CALLS = 512;
    /** So few that all bytes can be asked for then, too, before the object has had its 512 calls. */
    private static final int FEWER_CALLS = 200;
    private static final int FRAME_FAR = Made.FRAME_FAR;
    private static final int[] ODD_INTS = {-1, -2, 0, 1, 19, 20, 21, 300, 65535, 65536, Integer.MIN_VALUE, Integer.MAX_VALUE};

    private final Random random;
    private final DriftLog log = new DriftLog();
    private final Model model = new Model();
    /** How wide this run's numbers are, so that close ones and the widest ones both come. */
    private final int width;
    private final int timeStep;
    private final int bounds;

    private ModelTest(int seed) {
        random = new Random(seed);
        width = new int[] {3, 12, 200, 100000, Made.FAR}[random.nextInt(5)];
        timeStep = new int[] {1, 3, 30, 5000000, 200000000}[random.nextInt(5)];
        bounds = new int[] {0, 1, 4, 40, 1000, 65535}[random.nextInt(6)];
    }

    public static void main(String[] args) {
        // Fixed seeds: the same calls come each time.
        for (int seed = 0; seed < RUNS && Check.wrongSoFar() == 0; seed++) {
            new ModelTest(seed).run(seed);
        }
        Check.end();
    }

    private void run(int seed) {
        int part = seed % 4;
        int calls = part == 0 ? MOST_CALLS : FEWER_CALLS;
        for (int call = 0; call < calls && Check.wrongSoFar() == 0; call++) {
            compareOne("run " + seed + ", call " + call + ": ");
        }
        compareAtTheEnd("run " + seed + ", at the end, ", part);
    }

    private void compareAtTheEnd(String where, int part) {
        if (part == 1) {
            Check.due(where + "tracks", () -> Made.tracks(log), model.tracks());
        } else if (part == 2) {
            Check.due(where + "bytes", () -> Made.bytes(log), Oracle.toldBytes(model.allBytes()));
        } else if (part == 3) {
            Check.due(where + "spans", () -> Made.spans(log), model.spans);
        }
    }

    private int oddOr(int usual) {
        return random.nextInt(40) == 0 ? ODD_INTS[random.nextInt(ODD_INTS.length)] : usual;
    }

    private int id() {
        return oddOr(random.nextInt(4));
    }

    private int id(int state) {
        for (int i = 0; i < 6; i++) {
            int id = random.nextInt(4);
            if (model.states[id] == state) {
                return oddOr(id);
            }
        }
        return id();
    }

    private int near(int far) {
        int widest = Math.min(width, far);
        int value = random.nextInt(5) == 0 ? (random.nextBoolean() ? widest : -widest) : random.nextInt(2 * widest + 1) - widest;
        return oddOr(random.nextInt(60) == 0 ? (random.nextBoolean() ? far + 1 : -far - 1) : value);
    }

    private int bound() {
        return oddOr(random.nextInt(bounds + 1));
    }

    private int time(int id) {
        List<int[]> row = id >= 0 && id < 4 ? model.rows.get(id) : List.of();
        if (row.isEmpty()) {
            return oddOr(random.nextInt(timeStep));
        }
        long next = (long) row.get(row.size() - 1)[0] + random.nextInt(timeStep) + (random.nextInt(20) == 0 ? 0 : 1);
        return oddOr((int) Math.min(Integer.MAX_VALUE, next));
    }

    private int timeWithin(int id) {
        List<int[]> row = id >= 0 && id < 4 ? model.rows.get(id) : List.of();
        if (row.isEmpty()) {
            return oddOr(5);
        }
        int first = row.get(0)[0];
        int end = row.get(row.size() - 1)[0];
        int within = (int) (first + (long) (random.nextDouble() * (1.0 + end - first)));
        return oddOr(random.nextInt(10) == 0 ? within - 1 + random.nextInt(3) : Math.min(end, within));
    }

    private void compare(String what, Check.Call got, Check.Call want) {
        Check.due(what, got, Check.told(want));
    }

    private void compareOne(String where) {
        int kind = random.nextInt(100);
        if (kind < 40) {
            compareAdd(where);
        } else if (kind < 60) {
            compareState(where, kind);
        } else if (kind < 75) {
            compareMotion(where, kind);
        } else {
            compareBytes(where, kind);
        }
    }

    private void compareAdd(String where) {
        int id = id(1);
        int t = time(id);
        int x = near(Made.FAR);
        int y = near(Made.FAR);
        compare(where + "add(" + id + ", " + t + ", " + x + ", " + y + ")", () -> log.add(id, t, x, y), () -> model.add(id, t, x, y));
    }

    private void compareState(String where, int kind) {
        if (kind < 46) {
            int id = id(0);
            compare(where + "open(" + id + ")", () -> {
                log.open(id);
                return 0;
            }, () -> model.open(id));
        } else if (kind < 50) {
            int id = id(1);
            int e = bound();
            compare(where + "seal(" + id + ", " + e + ")", () -> log.seal(id, e), () -> model.seal(id, e));
        } else if (kind < 54) {
            int id = id(2);
            int e = bound();
            compare(where + "again(" + id + ", " + e + ")", () -> log.again(id, e), () -> model.again(id, e));
        } else if (kind < 56) {
            int id = id(2);
            compare(where + "drop(" + id + ")", () -> log.drop(id), () -> model.drop(id));
        } else if (kind < 58) {
            int id = id();
            int w = oddOr(random.nextInt(3));
            compare(where + "track(" + id + ", " + w + ")", () -> log.track(id, w), () -> model.track(id, w));
        } else {
            int id = id();
            int i = oddOr(random.nextInt(6));
            int w = oddOr(random.nextInt(3));
            compare(where + "sample(" + id + ", " + i + ", " + w + ")", () -> log.sample(id, i, w), () -> model.sample(id, i, w));
        }
    }

    private void compareMotion(String where, int kind) {
        int id = id(2);
        boolean second = random.nextBoolean();
        boolean other = random.nextBoolean();
        if (kind < 65) {
            int t = timeWithin(id);
            compare(where + "place(" + id + ", " + t + ", " + other + ", " + second + ")",
                    () -> log.place(id, t, other, second), () -> model.place(id, t, other, second));
        } else if (kind < 71) {
            int[] f = {near(FRAME_FAR), near(FRAME_FAR), near(FRAME_FAR), near(FRAME_FAR)};
            if (random.nextInt(5) > 0) {
                f = new int[] {Math.min(f[0], f[2]), Math.min(f[1], f[3]), Math.max(f[0], f[2]), Math.max(f[1], f[3])};
            }
            int[] frame = f;
            compare(where + "spans(" + id + ", " + f[0] + ", " + f[1] + ", " + f[2] + ", " + f[3] + ")",
                    () -> log.spans(id, frame[0], frame[1], frame[2], frame[3]), () -> model.spans(id, frame));
        } else {
            int i = oddOr(random.nextInt(3));
            compare(where + "span(" + i + ", " + other + ", " + second + ")",
                    () -> log.span(i, other, second), () -> model.span(i, other, second));
        }
    }

    private void compareBytes(String where, int kind) {
        if (kind < 80) {
            int id = id(2);
            compare(where + "pack(" + id + ")", () -> log.pack(id), () -> model.pack(id));
        } else if (kind < 83) {
            int k = oddOr(random.nextInt(12) - 1);
            compare(where + "bytes(" + k + ")", () -> log.bytes(k), () -> model.byteAt(k));
        } else if (kind < 87) {
            int n = oddOr(random.nextInt(3) + 1);
            long part = random.nextBoolean() ? random.nextLong() : random.nextInt(4);
            compare(where + "put(" + n + ", " + part + ")", () -> log.put(n, part), () -> model.put(n, part));
        } else if (kind < 92) {
            int n = oddOr(model.bytes.isEmpty() ? 0 : random.nextInt(model.bytes.size() + 1));
            compare(where + "cut(" + n + ")", () -> log.cut(n), () -> model.cut(n));
        } else {
            int id = id(0);
            int e = bound();
            compare(where + "unpack(" + id + ", " + e + ")", () -> log.unpack(id, e), () -> model.unpack(id, e));
        }
    }

    /** The document's state, with the oracle's answers. */
    private static final class Model {
        final int[] states = new int[4];
        final int[] bounds = {-1, -1, -1, -1};
        final List<List<int[]>> rows = new ArrayList<>();
        final List<Integer> bytes = new ArrayList<>();
        String spans = "";

        Model() {
            for (int id = 0; id < 4; id++) {
                rows.add(new ArrayList<>());
            }
        }

        private void need(int id, int state) {
            if (id < 0 || id > 3) {
                throw new IndexOutOfBoundsException();
            }
            if (states[id] != state) {
                throw new IllegalStateException();
            }
        }

        private static void need(boolean right) {
            if (!right) {
                throw new IllegalArgumentException();
            }
        }

        private int[][] row(int id) {
            return rows.get(id).toArray(new int[0][]);
        }

        private int become(int id, int bound, int[][] row) {
            states[id] = 2;
            bounds[id] = bound;
            rows.set(id, new ArrayList<>(List.of(row)));
            return row.length;
        }

        int open(int id) {
            need(id, 0);
            states[id] = 1;
            return 0;
        }

        int add(int id, int t, int x, int y) {
            need(id, 1);
            List<int[]> row = rows.get(id);
            if (row.size() == 20) {
                throw new IllegalStateException();
            }
            need(t >= 0 && Math.abs((long) x) <= Made.FAR && Math.abs((long) y) <= Made.FAR);
            need(row.isEmpty() || t > row.get(row.size() - 1)[0]);
            row.add(new int[] {t, x, y});
            return row.size();
        }

        int seal(int id, int e) {
            need(id, 1);
            if (rows.get(id).isEmpty()) {
                throw new IllegalStateException();
            }
            need(e >= 0 && e <= 65535);
            return become(id, e, Oracle.thin(row(id), e));
        }

        int again(int id, int e) {
            need(id, 2);
            need(e >= 0 && (long) e + bounds[id] <= 65535);
            return become(id, bounds[id] + e, Oracle.thin(row(id), e));
        }

        boolean drop(int id) {
            if (id < 0 || id > 3 || states[id] == 0) {
                return false;
            }
            states[id] = 0;
            bounds[id] = -1;
            rows.get(id).clear();
            return true;
        }

        int track(int id, int w) {
            if (id < 0 || id > 3 || w < 0 || w > 2) {
                return -1;
            }
            return new int[] {states[id], rows.get(id).size(), bounds[id]}[w];
        }

        int sample(int id, int i, int w) {
            if (id < 0 || id > 3 || i < 0 || i >= rows.get(id).size() || w < 0 || w > 2) {
                throw new IndexOutOfBoundsException();
            }
            return rows.get(id).get(i)[w];
        }

        String place(int id, int t, boolean y, boolean second) {
            need(id, 2);
            int[][] row = row(id);
            need(t >= row[0][0] && t <= row[row.length - 1][0]);
            return Oracle.place(row, t, y ? 2 : 1).split("/")[second ? 1 : 0];
        }

        int pack(int id) {
            need(id, 2);
            bytes.clear();
            for (int b : Oracle.pack(row(id))) {
                bytes.add(b);
            }
            return bytes.size();
        }

        int byteAt(int k) {
            return k == -1 ? bytes.size() : k >= 0 && k < bytes.size() ? bytes.get(k) : -1;
        }

        boolean put(int n, long part) {
            if (n < 1 || n > 8 || bytes.size() + n > 300) {
                return false;
            }
            byte[] all = java.nio.ByteBuffer.allocate(8).putLong(part).array();
            for (int i = 8 - n; i < 8; i++) {
                bytes.add(Byte.toUnsignedInt(all[i]));
            }
            return true;
        }

        boolean cut(int n) {
            if (n < 0 || n > bytes.size()) {
                return false;
            }
            bytes.subList(n, bytes.size()).clear();
            return true;
        }

        int unpack(int id, int e) {
            need(id, 0);
            need(e >= 0 && e <= 65535);
            int answer = Oracle.read(allBytes(), bytes.size());
            return answer < 0 ? answer : become(id, e, Oracle.samples(bytes));
        }

        int spans(int id, int[] frame) {
            need(id, 2);
            for (int f : frame) {
                need(Math.abs((long) f) <= FRAME_FAR);
            }
            spans = Oracle.spans(row(id), bounds[id], frame);
            return spans.isEmpty() ? 0 : spans.split(" ").length;
        }

        String span(int i, boolean end, boolean second) {
            String[] all = spans.split(" ");
            if (i < 0 || spans.isEmpty() || i >= all.length) {
                throw new IndexOutOfBoundsException();
            }
            return all[i].split("\\.\\.")[end ? 1 : 0].split("/")[second ? 1 : 0];
        }

        int[] allBytes() {
            return bytes.stream().mapToInt(Integer::intValue).toArray();
        }

        String tracks() {
            StringBuilder told = new StringBuilder();
            for (int id = 0; id < 4; id++) {
                told.append(states[id]).append(' ').append(bounds[id]).append(": ").append(Oracle.told(row(id))).append("; ");
            }
            return told.toString();
        }
    }
}
