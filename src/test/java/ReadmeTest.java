/** The example of README.md answers what is written there. */
public final class ReadmeTest {
    public static void main(String[] args) {
        DriftLog log = Made.open(0, new int[][] {{5, 0, 0}, {10, 10, 1}, {20, 30, 0}});
        Check.due("seal(0, 1)", () -> log.seal(0, 1), 2);
        Check.due("x at 8", () -> Made.fraction(log, 0, 8, false), "6/1");
        Check.due("pack(0)", () -> log.pack(0), 7);
        Check.due("unpack(1, 1)", () -> log.unpack(1, 1), 2);
        Check.due("track 1", () -> Made.samples(log, 1), Made.samples(log, 0));
        Check.due("spans(0, 4, -5, 9, 5)", () -> log.spans(0, 4, -5, 9, 5), 1);
        Check.due("its span", () -> Made.spans(log), "13/2..10/1");
        Check.end();
    }
}
