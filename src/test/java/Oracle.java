import java.math.BigInteger;
import java.util.ArrayList;
import java.util.Collections;
import java.util.List;

/** The document's words worked out in the slowest and plainest way, to compare the program with. */
final class Oracle {
    private static final long LAST_TIME = Integer.MAX_VALUE;
    private static final long FAR = 8388608;

    private Oracle() {
    }

    /** A fraction without a common divisor, of any size. */
    record Ratio(BigInteger first, BigInteger second) implements Comparable<Ratio> {
        static Ratio of(BigInteger first, BigInteger second) {
            BigInteger divisor = first.gcd(second).multiply(BigInteger.valueOf(second.signum()));
            return new Ratio(first.divide(divisor), second.divide(divisor));
        }

        static Ratio of(long whole) {
            return new Ratio(BigInteger.valueOf(whole), BigInteger.ONE);
        }

        Ratio plus(Ratio o) {
            return of(first.multiply(o.second).add(o.first.multiply(second)), second.multiply(o.second));
        }

        Ratio minus(Ratio o) {
            return plus(new Ratio(o.first.negate(), o.second));
        }

        Ratio times(Ratio o) {
            return of(first.multiply(o.first), second.multiply(o.second));
        }

        Ratio over(Ratio o) {
            return of(first.multiply(o.second), second.multiply(o.first));
        }

        Ratio abs() {
            return new Ratio(first.abs(), second);
        }

        @Override
        public int compareTo(Ratio o) {
            return first.multiply(o.second).compareTo(o.first.multiply(second));
        }

        String told() {
            return first + "/" + second;
        }
    }

    static String told(int[][] samples) {
        StringBuilder told = new StringBuilder();
        for (int[] s : samples) {
            told.append(told.length() == 0 ? "" : " ").append(s[0]).append(',').append(s[1]).append(',').append(s[2]);
        }
        return told.toString();
    }

    static String toldBytes(int[] bytes) {
        StringBuilder told = new StringBuilder();
        for (int b : bytes) {
            told.append(told.length() == 0 ? "" : " ").append(b);
        }
        return told.toString();
    }

    /** Where the motion of the samples is on an axis (1 is x, 2 is y). */
    static Ratio motion(int[][] samples, Ratio t, int axis) {
        for (int i = 0; i < samples.length; i++) {
            if (t.compareTo(Ratio.of(samples[i][0])) == 0) {
                return Ratio.of(samples[i][axis]);
            }
        }
        int b = 1;
        while (Ratio.of(samples[b][0]).compareTo(t) < 0) {
            b++;
        }
        int[] from = samples[b - 1];
        int[] to = samples[b];
        Ratio gone = t.minus(Ratio.of(from[0]));
        Ratio way = Ratio.of((long) to[axis] - from[axis]);
        return Ratio.of(from[axis]).plus(way.times(gone).over(Ratio.of((long) to[0] - from[0])));
    }

    static String place(int[][] samples, int t, int axis) {
        return motion(samples, Ratio.of(t), axis).told();
    }

    /** Tries every choice of places, fewest first and then from the front. */
    static int[][] thin(int[][] samples, int e) {
        int n = samples.length;
        if (n < 3) {
            return samples;
        }
        boolean[][] steps = new boolean[n][n];
        for (int a = 0; a < n; a++) {
            for (int b = a + 1; b < n; b++) {
                steps[a][b] = isNear(samples, a, b, e);
            }
        }
        for (int between = 0; between <= n - 2; between++) {
            int[][] found = thinWith(samples, steps, new ArrayList<>(List.of(0)), between);
            if (found != null) {
                return found;
            }
        }
        throw new AssertionError("all samples kept are always right");
    }

    private static int[][] thinWith(int[][] samples, boolean[][] steps, List<Integer> places, int between) {
        int last = samples.length - 1;
        int from = places.get(places.size() - 1);
        if (between == 0) {
            return steps[from][last] ? kept(samples, places) : null;
        }
        for (int next = from + 1; next < last; next++) {
            if (steps[from][next]) {
                places.add(next);
                int[][] found = thinWith(samples, steps, places, between - 1);
                if (found != null) {
                    return found;
                }
                places.remove(places.size() - 1);
            }
        }
        return null;
    }

    private static int[][] kept(int[][] samples, List<Integer> places) {
        int[][] kept = new int[places.size() + 1][];
        for (int i = 0; i < places.size(); i++) {
            kept[i] = samples[places.get(i)];
        }
        kept[places.size()] = samples[samples.length - 1];
        return kept;
    }

    /** Whether all samples between a and b may be dropped when these two are kept. */
    private static boolean isNear(int[][] samples, int a, int b, int e) {
        int[][] ends = {samples[a], samples[b]};
        for (int i = a + 1; i < b; i++) {
            for (int axis = 1; axis <= 2; axis++) {
                Ratio off = Ratio.of(samples[i][axis]).minus(motion(ends, Ratio.of(samples[i][0]), axis)).abs();
                if (off.compareTo(Ratio.of(e)) > 0) {
                    return false;
                }
            }
        }
        return true;
    }

    static int[] pack(int[][] samples) {
        List<Integer> bytes = new ArrayList<>();
        packNumber(bytes, samples.length);
        int[] before = {0, 0, 0};
        for (int[] s : samples) {
            packNumber(bytes, s[0] - before[0]);
            for (int axis = 1; axis <= 2; axis++) {
                int v = s[axis] - before[axis];
                packNumber(bytes, v >= 0 ? 2L * v : -2L * v - 1);
            }
            before = s;
        }
        return bytes.stream().mapToInt(Integer::intValue).toArray();
    }

    private static void packNumber(List<Integer> bytes, long number) {
        long rest = number;
        while (rest >= 128) {
            bytes.add((int) (rest % 128) + 128);
            rest /= 128;
        }
        bytes.add((int) rest);
    }

    /** What unpack answers: how many samples, or -2 less the fault, found by trying to complete each beginning. */
    static int read(int[] bytes, int size) {
        for (int k = 0; k < size; k++) {
            if (!isBeginning(bytes, k + 1)) {
                return -2 - k;
            }
        }
        int[][] samples = samples(toList(bytes, size));
        return samples == null ? -2 - size : samples.length;
    }

    /** Whether the first n bytes can be completed, trying every last group for a number that goes on. */
    private static boolean isBeginning(int[] bytes, int n) {
        if (bytes[n - 1] < 128) {
            return canFill(toList(bytes, n));
        }
        for (int group = 1; group < 128; group++) {
            List<Integer> row = toList(bytes, n);
            row.add(group);
            if (canFill(row)) {
                return true;
            }
        }
        return false;
    }

    /** Fills up with the least steps of time and no moves. */
    private static boolean canFill(List<Integer> row) {
        int ends = 0;
        for (int b : row) {
            ends += b < 128 ? 1 : 0;
        }
        for (int number = ends; number < 1 + 3 * row.get(0); number++) {
            row.add(number % 3 == 1 && number > 1 ? 1 : 0);
        }
        return samples(row) != null;
    }

    private static List<Integer> toList(int[] bytes, int n) {
        List<Integer> row = new ArrayList<>();
        for (int i = 0; i < n; i++) {
            row.add(bytes[i]);
        }
        return row;
    }

    /** The samples that have just these bytes when packed, or null. */
    static int[][] samples(List<Integer> bytes) {
        List<BigInteger> numbers = numbers(bytes);
        if (numbers == null || numbers.isEmpty()) {
            return null;
        }
        for (BigInteger number : numbers) {
            if (number.bitLength() > 31) {
                return null;
            }
        }
        long count = numbers.get(0).longValue();
        if (count < 1 || count > 20 || numbers.size() != 1 + 3 * count) {
            return null;
        }
        int[][] samples = new int[(int) count][3];
        long[] at = {-1, 0, 0};
        for (int i = 0; i < count; i++) {
            long t = (i == 0 ? 0 : at[0]) + numbers.get(1 + 3 * i).longValue();
            long x = at[1] + unfolded(numbers.get(2 + 3 * i).longValue());
            long y = at[2] + unfolded(numbers.get(3 + 3 * i).longValue());
            if (t <= at[0] || t > LAST_TIME || Math.abs(x) > FAR || Math.abs(y) > FAR) {
                return null;
            }
            at = new long[] {t, x, y};
            samples[i] = new int[] {(int) t, (int) x, (int) y};
        }
        return samples;
    }

    private static long unfolded(long number) {
        return number % 2 == 0 ? number / 2 : -(number + 1) / 2;
    }

    private static List<BigInteger> numbers(List<Integer> bytes) {
        List<BigInteger> numbers = new ArrayList<>();
        BigInteger number = BigInteger.ZERO;
        int group = 0;
        for (int b : bytes) {
            number = number.add(BigInteger.valueOf(b & 127).shiftLeft(7 * group));
            group++;
            if (b < 128) {
                if (b == 0 && group > 1) {
                    return null;
                }
                numbers.add(number);
                number = BigInteger.ZERO;
                group = 0;
            }
        }
        return group == 0 ? numbers : null;
    }

    /** Looks at every time where something can change, and at one time between each two of them. */
    static String spans(int[][] samples, int bound, int[] frame) {
        if (frame[0] > frame[2] || frame[1] > frame[3]) {
            return "";
        }
        long[] low = {0, (long) frame[0] - bound, (long) frame[1] - bound};
        long[] high = {0, (long) frame[2] + bound, (long) frame[3] + bound};
        List<Ratio> times = turningTimes(samples, low, high);
        StringBuilder told = new StringBuilder();
        Ratio begin = null;
        for (int i = 0; i < times.size(); i++) {
            if (!isInside(samples, times.get(i), low, high)) {
                continue;
            }
            if (begin == null) {
                begin = times.get(i);
            }
            boolean goesOn = i + 1 < times.size()
                    && isInside(samples, times.get(i).plus(times.get(i + 1)).over(Ratio.of(2)), low, high);
            if (!goesOn) {
                told.append(told.length() == 0 ? "" : " ").append(begin.told()).append("..").append(times.get(i).told());
                begin = null;
            }
        }
        return told.toString();
    }

    private static boolean isInside(int[][] samples, Ratio t, long[] low, long[] high) {
        for (int axis = 1; axis <= 2; axis++) {
            Ratio at = motion(samples, t, axis);
            if (at.compareTo(Ratio.of(low[axis])) < 0 || at.compareTo(Ratio.of(high[axis])) > 0) {
                return false;
            }
        }
        return true;
    }

    private static List<Ratio> turningTimes(int[][] samples, long[] low, long[] high) {
        List<Ratio> times = new ArrayList<>();
        for (int[] s : samples) {
            times.add(Ratio.of(s[0]));
        }
        for (int i = 1; i < samples.length; i++) {
            for (int axis = 1; axis <= 2; axis++) {
                addCrossing(times, samples[i - 1], samples[i], axis, low[axis]);
                addCrossing(times, samples[i - 1], samples[i], axis, high[axis]);
            }
        }
        Collections.sort(times);
        List<Ratio> once = new ArrayList<>();
        for (Ratio t : times) {
            if (once.isEmpty() || once.get(once.size() - 1).compareTo(t) != 0) {
                once.add(t);
            }
        }
        return once;
    }

    private static void addCrossing(List<Ratio> times, int[] a, int[] b, int axis, long line) {
        if (a[axis] == b[axis]) {
            return;
        }
        Ratio part = Ratio.of(line - a[axis]).over(Ratio.of((long) b[axis] - a[axis]));
        if (part.compareTo(Ratio.of(0)) >= 0 && part.compareTo(Ratio.of(1)) <= 0) {
            times.add(Ratio.of(a[0]).plus(part.times(Ratio.of((long) b[0] - a[0]))));
        }
    }
}
