/** "A call that reports an error or NONE changes nothing": each such call, in several states, against a twin without it. */
public final class RefusalsTest {
    private static final int UNKNOWN = CompositeDecoder.UNKNOWN;
    private static final int BAD_VALUE = CompositeDecoder.BAD_VALUE;
    private static final int NONE = CompositeDecoder.NONE;
    private static final int MIN = Integer.MIN_VALUE;
    private static final int MAX = Integer.MAX_VALUE;
    private static final int[] NO_LINES = {-1, 8, MIN, MAX};
    private static final int[] NO_SEGMENTS = {-1, 10, MIN, MAX};
    private static final int[] NO_YS = {-1, 201, MIN, MAX};
    private static final int[] NO_HUES = {-61, 61, MIN, MAX};

    private interface Call {
        int on(CompositeDecoder x);
    }

    private final String state;
    private final Twins.Steps before;

    private RefusalsTest(String state, Twins.Steps before) {
        this.state = state;
        this.before = before;
    }

    public static void main(String[] args) {
        Twins.Steps decoded = Twins.join(RefusalsTest::prepare, CompositeDecoder::decode);
        Twins.Steps twice = Twins.join(decoded, RefusalsTest::decodeAgain);
        new RefusalsTest("a new object", x -> { }).refuseAll();
        new RefusalsTest("before the first decoding", RefusalsTest::prepare).refuseAll();
        new RefusalsTest("behind the first decoding", decoded).refuseAll();
        new RefusalsTest("behind the second decoding", twice).refuseAll();
        noneBeforeTheFirst("a new object", x -> { });
        noneBeforeTheFirst("before the first decoding", RefusalsTest::prepare);
        noneBeforeTheSecond(decoded);
        noneWithoutAPulse(decoded);
        fullText();
        faults();
        Check.finish();
    }

    /** No state of the object stays as it is at first. */
    private static void prepare(CompositeDecoder x) {
        x.setStandard(1);
        for (int n = 0; n < 8; n++) {
            x.fill(n, 100 + 7 * n, 20 - n, n - 30);
            x.setLine(n, n % 3 - 1, 10 + n, n / 6, n % 4);
            x.setSegment(n, n, 33 * (n % 7), 3 * n, -n);
        }
        x.miss(5, true);
        x.set(0, 7);
        x.set(1, 12);
        x.set(2, 2);
        x.set(3, 0);
        typeAll(x, "y4c6");
    }

    private static void decodeAgain(CompositeDecoder x) {
        x.setSegment(3, 8, 199, 0, 0);
        x.setSegment(5, 2, 0, 0, 0);
        x.set(1, 9);
        x.decode();
    }

    private static void typeAll(CompositeDecoder x, String text) {
        for (int i = 0; i < text.length(); i++) {
            x.type(text.charAt(i));
        }
    }

    private void refuseAll() {
        for (int wrong = 0; wrong < 4; wrong++) {
            refusePictures(wrong);
            refuseLines(wrong);
            refuseQuestions(wrong);
        }
    }

    private void refusePictures(int wrong) {
        int n = NO_LINES[wrong];
        int i = NO_SEGMENTS[wrong];
        int y = NO_YS[wrong];
        int hue = NO_HUES[wrong];
        refused("setSegment, line " + n, UNKNOWN, x -> x.setSegment(n, 4, 5, 6, 7));
        refused("setSegment, segment " + i, UNKNOWN, x -> x.setSegment(3, i, 5, 6, 7));
        refused("setSegment, Y " + y, BAD_VALUE, x -> x.setSegment(3, 4, y, 6, 7));
        refused("setSegment, U " + hue, BAD_VALUE, x -> x.setSegment(3, 4, 5, hue, 7));
        refused("setSegment, V " + hue, BAD_VALUE, x -> x.setSegment(3, 4, 5, 6, hue));
        refused("fill, line " + n, UNKNOWN, x -> x.fill(n, 5, 6, 7));
        refused("fill, Y " + y, BAD_VALUE, x -> x.fill(3, y, 6, 7));
        refused("fill, U " + hue, BAD_VALUE, x -> x.fill(3, 5, hue, 7));
        refused("fill, V " + hue, BAD_VALUE, x -> x.fill(3, 5, 6, hue));
    }

    private void refuseLines(int wrong) {
        int n = NO_LINES[wrong];
        int jitter = new int[] {-5, 5, MIN, MAX}[wrong];
        int amplitude = new int[] {-1, 41, MIN, MAX}[wrong];
        int phase = new int[] {-1, 4, MIN, MAX}[wrong];
        int noise = new int[] {-1, 10, MIN, MAX}[wrong];
        int standard = new int[] {-1, 2, MIN, MAX}[wrong];
        refused("setLine, line " + n, UNKNOWN, x -> x.setLine(n, 3, 33, 3, 3));
        // The line 5 has no pulse: a refused call must not bring it back.
        refused("setLine, jitter " + jitter, BAD_VALUE, x -> x.setLine(5, jitter, 33, 3, 3));
        refused("setLine, amplitude " + amplitude, BAD_VALUE, x -> x.setLine(5, 3, amplitude, 3, 3));
        refused("setLine, phase " + phase, BAD_VALUE, x -> x.setLine(5, 3, 33, phase, 3));
        refused("setLine, noise " + noise, BAD_VALUE, x -> x.setLine(5, 3, 33, 3, noise));
        refused("miss, line " + n, UNKNOWN, x -> x.miss(n, true));
        refused("miss not, line " + n, UNKNOWN, x -> x.miss(n, false));
        refused("setStandard " + standard, BAD_VALUE, x -> x.setStandard(standard));
        refused("readBars, line " + n, UNKNOWN, x -> x.readBars(n));
        refused("set, setting " + n, UNKNOWN, x -> x.set(n < 0 ? n : Math.max(n - 4, 4), 1));
        int[][] ranges = {{1, 40}, {0, 100}, {0, 3}, {0, 2}};
        for (int s = 0; s < 4; s++) {
            int what = s;
            int value = new int[] {ranges[s][0] - 1, ranges[s][1] + 1, MIN, MAX}[wrong];
            refused("set " + what + " to " + value, BAD_VALUE, x -> x.set(what, value));
        }
    }

    private void refuseQuestions(int wrong) {
        int n = NO_LINES[wrong];
        int i = NO_SEGMENTS[wrong];
        int k = new int[] {-1, 112, MIN, MAX}[wrong];
        int row = new int[] {-1, 8, MIN, MAX}[wrong];
        int hue = new int[] {-1, 2, MIN, MAX}[wrong];
        int what = new int[] {-1, 19, MIN, MAX}[wrong];
        refused("sample, line " + n, UNKNOWN, x -> x.sample(n, 5));
        refused("sample " + k, BAD_VALUE, x -> x.sample(3, k));
        refused("line " + n, UNKNOWN, x -> x.line(n, 3));
        refused("line, what " + row, BAD_VALUE, x -> x.line(3, row));
        refused("luma, line " + n, UNKNOWN, x -> x.luma(n, 3));
        refused("luma, segment " + i, UNKNOWN, x -> x.luma(3, i));
        refused("combed, line " + n, UNKNOWN, x -> x.combed(n, 3));
        refused("combed, segment " + i, UNKNOWN, x -> x.combed(3, i));
        refused("u and v, line " + n, 0, x -> nonzero(x.u(n, 3)) + nonzero(x.v(n, 3)));
        refused("u and v, segment " + i, 0, x -> nonzero(x.u(3, i)) + nonzero(x.v(3, i)));
        refused("thousandths, line " + n, UNKNOWN, x -> x.thousandths(n, 3, 0));
        refused("thousandths, segment " + i, UNKNOWN, x -> x.thousandths(3, i, 0));
        refused("thousandths, what " + hue, BAD_VALUE, x -> x.thousandths(3, 3, hue));
        refused("reference, line " + n, 0, x -> nonzero(x.reference(n, 0)) + nonzero(x.reference(n, 1)));
        refused("reference, what " + hue, 0, x -> nonzero(x.reference(3, hue)));
        refused("motion, line " + n, UNKNOWN, x -> x.motion(n, 3));
        refused("motion, segment " + i, UNKNOWN, x -> x.motion(3, i));
        refused("count " + what, BAD_VALUE, x -> x.count(what));
    }

    private static int nonzero(float number) {
        return number != 0f ? 1 : 0;
    }

    private void refused(String what, int due, Call call) {
        String name = state + ": " + what;
        Twins.changesNothing(name, before, x -> Check.due(name, call.on(x), due));
    }

    private static void noneBeforeTheFirst(String state, Twins.Steps before) {
        Twins.changesNothing("NONE, " + state, before, x -> {
            for (int what = 0; what < 8; what++) {
                Check.due("line before the first decoding", x.line(7, what), NONE);
            }
            for (int what = 1; what < 13; what++) {
                Check.due("count before the first decoding", x.count(what), NONE);
            }
            for (int i = 0; i < 10; i++) {
                Check.due("luma before the first decoding", x.luma(7, i), NONE);
                Check.due("combed before the first decoding", x.combed(7, i), NONE);
                Check.due("u in thousandths before the first decoding", x.thousandths(7, i, 0), NONE);
                Check.due("v in thousandths before the first decoding", x.thousandths(7, i, 1), NONE);
                Check.due("motion before the first decoding", x.motion(7, i), NONE);
            }
        });
    }

    private static void noneBeforeTheSecond(Twins.Steps decoded) {
        Twins.changesNothing("NONE before the second decoding", decoded, x -> {
            Check.due("moving segments before the second decoding", x.count(7), NONE);
            Check.due("noise before the second decoding", x.count(8), NONE);
            Check.due("motion before the second decoding", x.motion(0, 0), NONE);
            Check.due("motion before the second decoding", x.motion(7, 9), NONE);
        });
    }

    private static void noneWithoutAPulse(Twins.Steps decoded) {
        Twins.changesNothing("NONE for a pulse", decoded, x -> Check.due("a missing pulse", x.line(5, 0), NONE));
    }

    /** A text of 60 characters has a fault, for 10 segments take 20 at most: what is told of it must stay. */
    private static void fullText() {
        String bars = "r1g1b1w1k1y1c1m1r1g1";
        Twins.Steps full = Twins.join(RefusalsTest::prepare, x -> {
            x.clearText();
            typeAll(x, bars + bars + bars);
        });
        for (char c : new char[] {0, '1', 'w', 'x', 255, 256, Character.MAX_VALUE}) {
            Twins.changesNothing("FULL", full, x -> Check.due("a 61st character", x.type(c), CompositeDecoder.FULL));
        }
    }

    private static void faults() {
        String[] texts = {"", "w", "w9", "x", "1", "w0", "w9y2", "w9yy", "wwwwwwwwwww", "y5r4", "y5r5k"};
        int[] faults = {0, 1, 2, 0, 0, 1, 3, 3, 10, 4, 4};
        for (int i = 0; i < texts.length; i++) {
            String text = texts[i];
            int due = -100 - faults[i];
            Twins.Steps typed = Twins.join(RefusalsTest::prepare, x -> {
                x.clearText();
                typeAll(x, text);
            });
            for (int n = 0; n < 8; n++) {
                int line = n;
                Twins.changesNothing("a fault", typed, x -> Check.due("readBars, " + text, x.readBars(line), due));
            }
        }
    }
}
