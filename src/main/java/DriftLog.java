/**
 * Logs of tracks that are made thinner, packed into bytes, read again strictly,
 * and asked where they are at a time and when they are in a frame.
 */
public final class DriftLog {
    public static final int NONE = -1;

    private static final int TRACKS = 4;
    private static final int MOST_SAMPLES = 20;
    private static final int MOST_BYTES = 300;
    private static final int MOST_PUT = 8;
    private static final int MOST_BOUND = 65535;
    private static final int LAST_TIME = 2147483647;
    private static final int FARTHEST = 8388608;
    private static final int FRAME_FARTHEST = 16777216;

    /** Five groups of seven bits hold every number up to 2147483647. */
    private static final int MOST_GROUPS = 5;

    /** Euclid's steps on two longs stay below a hundred. */
    private static final int MOST_EUCLID_STEPS = 200;

    private static final int FREE = 0;
    private static final int OPEN = 1;
    private static final int SEALED = 2;

    private final Track[] tracks = new Track[TRACKS];
    private final Thinner thinner = new Thinner();
    private final ByteRow log = new ByteRow();
    private final Reader reader = new Reader();
    private final SpanRow found = new SpanRow();

    public DriftLog() {
        for (int id = 0; id < TRACKS; id++) {
            tracks[id] = new Track();
        }
    }

    public void open(int id) throws IndexOutOfBoundsException, IllegalStateException {
        Track track = trackIn(id, FREE);
        track.state = OPEN;
    }

    public int add(int id, int t, int x, int y)
            throws IndexOutOfBoundsException, IllegalStateException, IllegalArgumentException {
        Row row = trackIn(id, OPEN).row;
        if (row.size >= MOST_SAMPLES) {
            throw new IllegalStateException("the track has 20 samples");
        }
        if (t < 0 || isBeyond(x, FARTHEST) || isBeyond(y, FARTHEST)) {
            throw new IllegalArgumentException("a number of the sample is out of its range");
        }
        if (row.size > 0 && t <= row.times[row.size - 1]) {
            throw new IllegalArgumentException("the time is not above the last one");
        }
        row.append(t, x, y);
        return row.size;
    }

    public int seal(int id, int e)
            throws IndexOutOfBoundsException, IllegalStateException, IllegalArgumentException {
        Track track = trackIn(id, OPEN);
        if (track.row.size == 0) {
            throw new IllegalStateException("the track has no sample");
        }
        if (!isBound(e)) {
            throw new IllegalArgumentException("e is not 0 .. 65535");
        }
        thinner.thin(track.row, e);
        track.become(SEALED, e);
        return track.row.size;
    }

    public int again(int id, int e)
            throws IndexOutOfBoundsException, IllegalStateException, IllegalArgumentException {
        Track track = trackIn(id, SEALED);
        if (e < 0 || e > MOST_BOUND - track.bound) {
            throw new IllegalArgumentException("e is below 0 or the bound would be above 65535");
        }
        thinner.thin(track.row, e);
        track.bound += e;
        return track.row.size;
    }

    public boolean drop(int id) {
        if (!isTrack(id) || tracks[id].state == FREE) {
            return false;
        }
        tracks[id].row.size = 0;
        tracks[id].become(FREE, NONE);
        return true;
    }

    public int track(int id, int w) {
        if (!isTrack(id)) {
            return NONE;
        }
        switch (w) {
            case 0:
                return tracks[id].state;
            case 1:
                return tracks[id].row.size;
            case 2:
                return tracks[id].bound;
            default:
                return NONE;
        }
    }

    public int sample(int id, int i, int w) throws IndexOutOfBoundsException {
        Row row = trackAt(id).row;
        if (i < 0 || i >= row.size) {
            throw new IndexOutOfBoundsException("no such sample");
        }
        switch (w) {
            case 0:
                return row.times[i];
            case 1:
                return row.xs[i];
            case 2:
                return row.ys[i];
            default:
                throw new IndexOutOfBoundsException("no such w");
        }
    }

    public long place(int id, int t, boolean y, boolean second)
            throws IndexOutOfBoundsException, IllegalStateException, IllegalArgumentException {
        Row row = trackIn(id, SEALED).row;
        int b = row.firstNotBefore(t);
        if (b >= row.size || t < row.times[0]) {
            throw new IllegalArgumentException("the track has no motion at that time");
        }
        int[] values = y ? row.ys : row.xs;
        if (row.times[b] == t || b == 0) {
            return second ? 1 : values[b];
        }
        int a = b - 1;
        long whole = row.times[b] - row.times[a];
        long gone = t - row.times[a];
        return lowestTerm(values[a] * whole + (values[b] - values[a]) * gone, whole, second);
    }

    public int pack(int id) throws IndexOutOfBoundsException, IllegalStateException {
        log.write(trackIn(id, SEALED).row);
        return log.size;
    }

    public int bytes(int k) {
        if (k == -1) {
            return log.size;
        }
        return k >= 0 && k < log.size ? log.data[k] : NONE;
    }

    public boolean put(int n, long part) {
        if (n < 1 || n > MOST_PUT || n > MOST_BYTES - log.size) {
            return false;
        }
        for (int k = n - 1; k >= 0; k--) {
            log.append((int) (part >>> (8 * k)) & 255);
        }
        return true;
    }

    public boolean cut(int n) {
        if (n < 0 || n > log.size) {
            return false;
        }
        log.size = n;
        return true;
    }

    public int unpack(int id, int e)
            throws IndexOutOfBoundsException, IllegalStateException, IllegalArgumentException {
        Track track = trackIn(id, FREE);
        if (!isBound(e)) {
            throw new IllegalArgumentException("e is not 0 .. 65535");
        }
        int fault = reader.read(log);
        if (fault != NONE) {
            return -2 - fault;
        }
        track.row.copyFrom(reader.row);
        track.become(SEALED, e);
        return track.row.size;
    }

    public int spans(int id, int x1, int y1, int x2, int y2)
            throws IndexOutOfBoundsException, IllegalStateException, IllegalArgumentException {
        Track track = trackIn(id, SEALED);
        if (isBeyond(x1, FRAME_FARTHEST) || isBeyond(y1, FRAME_FARTHEST)
                || isBeyond(x2, FRAME_FARTHEST) || isBeyond(y2, FRAME_FARTHEST)) {
            throw new IllegalArgumentException("a number of the frame is out of its range");
        }
        // The document gives such a frame no spans even where the bound would open it again.
        if (x1 > x2 || y1 > y2) {
            found.size = 0;
            return 0;
        }
        int bound = track.bound;
        found.find(track.row, x1 - bound, x2 + bound, y1 - bound, y2 + bound);
        return found.size;
    }

    public long span(int i, boolean end, boolean second) throws IndexOutOfBoundsException {
        if (i < 0 || i >= found.size) {
            throw new IndexOutOfBoundsException("no such span");
        }
        return end
                ? lowestTerm(found.endFirsts[i], found.endSeconds[i], second)
                : lowestTerm(found.beginFirsts[i], found.beginSeconds[i], second);
    }

    private static boolean isTrack(int id) {
        return id >= 0 && id < TRACKS;
    }

    private static boolean isBound(int e) {
        return e >= 0 && e <= MOST_BOUND;
    }

    private static boolean isBeyond(int value, int farthest) {
        return value < -farthest || value > farthest;
    }

    private Track trackAt(int id) {
        if (!isTrack(id)) {
            throw new IndexOutOfBoundsException("no such track");
        }
        return tracks[id];
    }

    private Track trackIn(int id, int state) {
        Track track = trackAt(id);
        if (track.state != state) {
            throw new IllegalStateException("the track is in another state");
        }
        return track;
    }

    /** The first or the second number of first / second (which is above 0) without a common divisor. */
    private static long lowestTerm(long first, long second, boolean wantsSecond) {
        long divisor = commonDivisor(first < 0 ? -first : first, second);
        long term = wantsSecond ? second : first;
        return divisor > 0 ? term / divisor : term;
    }

    private static long commonDivisor(long a, long b) {
        long larger = a;
        long smaller = b;
        for (int step = 0; step < MOST_EUCLID_STEPS && smaller != 0; step++) {
            long rest = larger % smaller;
            larger = smaller;
            smaller = rest;
        }
        return larger;
    }

    /** Samples in the order of their times, at most 20. */
    private static final class Row {
        final int[] times = new int[MOST_SAMPLES];
        final int[] xs = new int[MOST_SAMPLES];
        final int[] ys = new int[MOST_SAMPLES];
        int size;

        void append(int t, int x, int y) {
            if (size < MOST_SAMPLES) {
                times[size] = t;
                xs[size] = x;
                ys[size] = y;
                size++;
            }
        }

        void copyFrom(Row other) {
            size = 0;
            for (int i = 0; i < other.size; i++) {
                append(other.times[i], other.xs[i], other.ys[i]);
            }
        }

        /** The place of the first sample that is not before t; size if all are. */
        int firstNotBefore(int t) {
            int i = 0;
            while (i < size && times[i] < t) {
                i++;
            }
            return i;
        }
    }

    private static final class Track {
        final Row row = new Row();
        int state = FREE;
        int bound = NONE;

        void become(int newState, int newBound) {
            state = newState;
            bound = newBound;
        }
    }

    private static final class Thinner {
        /** How many steps it takes at least from each sample to the last one. */
        private final int[] steps = new int[MOST_SAMPLES];

        void thin(Row row, int e) {
            countSteps(row, e);
            int count = row.size;
            int from = 0;
            // The kept samples move to the front, never past one that is still to be looked at.
            row.size = count > 0 ? 1 : 0;
            for (int to = 1; to < count; to++) {
                // The first one that is on a shortest way makes the places least from the front.
                if (steps[to] == steps[from] - 1 && canStep(row, from, to, e)) {
                    row.append(row.times[to], row.xs[to], row.ys[to]);
                    from = to;
                }
            }
        }

        private void countSteps(Row row, int e) {
            int last = row.size - 1;
            for (int from = last; from >= 0; from--) {
                int least = last - from;
                for (int to = from + 1; to <= last; to++) {
                    if (steps[to] + 1 < least && canStep(row, from, to, e)) {
                        least = steps[to] + 1;
                    }
                }
                steps[from] = least;
            }
        }

        private static boolean canStep(Row row, int from, int to, int e) {
            for (int i = from + 1; i < to; i++) {
                if (!isNear(row.times, row.xs, from, i, to, e)
                        || !isNear(row.times, row.ys, from, i, to, e)) {
                    return false;
                }
            }
            return true;
        }

        /** Multiplied by the time of the step, so that all stays whole: below 2 to the 57. */
        private static boolean isNear(int[] times, int[] values, int from, int i, int to, int e) {
            long whole = times[to] - times[from];
            long gone = times[i] - times[from];
            long away = (values[i] - values[from]) * whole - (values[to] - values[from]) * gone;
            return (away < 0 ? -away : away) <= e * whole;
        }
    }

    private static final class ByteRow {
        final int[] data = new int[MOST_BYTES];
        int size;

        void append(int value) {
            if (size < MOST_BYTES) {
                data[size] = value;
                size++;
            }
        }

        /** 20 samples have at most 261 bytes, so they always fit. */
        void write(Row row) {
            size = 0;
            appendNumber(row.size);
            int t = 0;
            int x = 0;
            int y = 0;
            for (int i = 0; i < row.size; i++) {
                appendNumber(row.times[i] - t);
                appendNumber(folded(row.xs[i] - x));
                appendNumber(folded(row.ys[i] - y));
                t = row.times[i];
                x = row.xs[i];
                y = row.ys[i];
            }
        }

        private void appendNumber(int number) {
            int rest = number;
            for (int group = 1; group < MOST_GROUPS && rest > 127; group++) {
                append((rest & 127) + 128);
                rest >>>= 7;
            }
            append(rest);
        }

        private static int folded(int v) {
            return (v << 1) ^ (v >> 31);
        }
    }

    /** Reads bytes into a row of its own, so that a fault leaves every track as it is. */
    private static final class Reader {
        final Row row = new Row();
        private int at;
        private int fault;

        /** The fault, or NONE. */
        int read(ByteRow from) {
            at = 0;
            fault = NONE;
            row.size = 0;
            int count = (int) readNumber(from, 1, MOST_SAMPLES, MOST_SAMPLES);
            for (int i = 0; i < count && fault == NONE; i++) {
                readSample(from, count - 1 - i);
            }
            if (fault == NONE && at < from.size) {
                fault = at;
            }
            return fault;
        }

        private void readSample(ByteRow from, int behind) {
            int last = row.size - 1;
            long t = last < 0 ? 0 : row.times[last];
            int x = last < 0 ? 0 : row.xs[last];
            int y = last < 0 ? 0 : row.ys[last];
            // The samples behind this one need a time each, too.
            long mostTime = LAST_TIME - behind - t;
            t += readNumber(from, last < 0 ? 0 : 1, mostTime, mostTime);
            x += readMove(from, x);
            y += readMove(from, y);
            if (fault == NONE) {
                row.append((int) t, x, y);
            }
        }

        private int readMove(ByteRow from, int before) {
            long mostUp = 2L * (FARTHEST - before);
            long mostDown = 2L * (FARTHEST + before) - 1;
            int number = (int) readNumber(from, 0, mostUp, mostDown);
            return (number >>> 1) ^ -(number & 1);
        }

        /** Even and odd numbers have a limit each, as moves up are even and moves down odd. */
        private long readNumber(ByteRow from, long least, long mostEven, long mostOdd) {
            long number = 0;
            for (int group = 0; group < MOST_GROUPS && fault == NONE; group++) {
                if (at >= from.size) {
                    fault = at;
                    return 0;
                }
                int read = from.data[at];
                boolean isEnd = read <= 127;
                boolean isTooLong = read == 0 && group > 0;
                number += (long) (read & 127) << (7 * group);
                // The least number that begins like this ends with a 1 in the next group.
                long reached = isEnd ? number : number + (1L << (7 * group + 7));
                long most = (number & 1) == 0 ? mostEven : mostOdd;
                if (isTooLong || reached < least || reached > most) {
                    fault = at;
                    return 0;
                }
                at++;
                if (isEnd) {
                    return number;
                }
            }
            return 0;
        }
    }

    /** Spans as fractions that may still have a common divisor, the seconds above 0. */
    private static final class SpanRow {
        final long[] beginFirsts = new long[MOST_SAMPLES];
        final long[] beginSeconds = new long[MOST_SAMPLES];
        final long[] endFirsts = new long[MOST_SAMPLES];
        final long[] endSeconds = new long[MOST_SAMPLES];
        int size;

        // The part of the stretch at hand that is still inside, in parts of the stretch's time:
        // without the time itself the products of two fractions stay far within a long.
        private long fromFirst;
        private long fromSecond;
        private long toFirst;
        private long toSecond;

        void find(Row row, int xLow, int xHigh, int yLow, int yHigh) {
            size = 0;
            // A single sample is a stretch from itself to itself.
            int start = row.size == 1 ? 0 : 1;
            for (int b = start; b < row.size; b++) {
                int a = b > 0 ? b - 1 : 0;
                takeWholeStretch();
                narrow(row.xs[a], row.xs[b], xLow, xHigh);
                narrow(row.ys[a], row.ys[b], yLow, yHigh);
                if (fromFirst * toSecond <= toFirst * fromSecond) {
                    note(row.times[a], row.times[b]);
                }
            }
        }

        private void takeWholeStretch() {
            fromFirst = 0;
            fromSecond = 1;
            toFirst = 1;
            toSecond = 1;
        }

        private void narrow(int a, int b, int low, int high) {
            if (a < b) {
                beginNotBefore(low - a, b - a);
                endNotBehind(high - a, b - a);
            } else if (a > b) {
                beginNotBefore(a - high, a - b);
                endNotBehind(a - low, a - b);
            } else if (a < low || a > high) {
                // Behind the end of the stretch, so that nothing of it is left.
                beginNotBefore(2, 1);
            }
        }

        private void beginNotBefore(long first, long second) {
            if (first * fromSecond > fromFirst * second) {
                fromFirst = first;
                fromSecond = second;
            }
        }

        private void endNotBehind(long first, long second) {
            if (first * toSecond < toFirst * second) {
                toFirst = first;
                toSecond = second;
            }
        }

        private void note(long a, long b) {
            // Inside at the end of the stretch before is inside at the beginning of this one: one span.
            boolean goesOn = size > 0 && endFirsts[size - 1] == a * endSeconds[size - 1];
            if (!goesOn && size < MOST_SAMPLES) {
                beginFirsts[size] = a * fromSecond + fromFirst * (b - a);
                beginSeconds[size] = fromSecond;
                size++;
            }
            if (size > 0) {
                endFirsts[size - 1] = a * toSecond + toFirst * (b - a);
                endSeconds[size - 1] = toSecond;
            }
        }
    }
}
