/** Promises 1 to 6 and 10: a new object, the picture, and its samples. */
public final class PictureTest {
    private static final int UNKNOWN = CompositeDecoder.UNKNOWN;
    private static final int BAD_VALUE = CompositeDecoder.BAD_VALUE;
    private static final int NONE = CompositeDecoder.NONE;

    public static void main(String[] args) {
        constants();
        newObject();
        setSegment();
        fill();
        setLine();
        miss();
        setStandard();
        plainSamples();
        jitterAndPhase();
        noise();
        turnedSamples();
        wrongSamples();
        Check.finish();
    }

    private static void constants() {
        Check.due("UNKNOWN", CompositeDecoder.UNKNOWN, -100001);
        Check.due("BAD_VALUE", CompositeDecoder.BAD_VALUE, -100002);
        Check.due("FULL", CompositeDecoder.FULL, -100003);
        Check.due("NONE", CompositeDecoder.NONE, -100004);
    }

    private static void newObject() {
        CompositeDecoder x = new CompositeDecoder();
        for (int line = 0; line < 8; line++) {
            Check.due("a new line's pulse", x.sample(line, 8), -40);
            Check.due("a new line's pulse", x.sample(line, 15), -40);
            Check.due("a new line's burst", x.sample(line, 17 + 2 * (line % 2)), -20);
            for (int k = 24; k < 112; k++) {
                Check.due("a new line is dark", x.sample(line, k), 0);
            }
        }
        int[] counts = {0, NONE, NONE, NONE, NONE, NONE, NONE, NONE, NONE, NONE, NONE, NONE, NONE, 0, 0, 8, 10, 3, 2};
        for (int what = 0; what < counts.length; what++) {
            Check.due("new: count " + what, x.count(what), counts[what]);
        }
        for (int line = 0; line < 8; line++) {
            for (int segment = 0; segment < 10; segment++) {
                Check.due("new: luma", x.luma(line, segment), NONE);
                Check.due("new: combed", x.combed(line, segment), NONE);
                Check.due("new: motion", x.motion(line, segment), NONE);
                Check.dueFloat("new: u", x.u(line, segment), 0f);
                Check.dueFloat("new: v", x.v(line, segment), 0f);
                Check.due("new: thousandths", x.thousandths(line, segment, 0), NONE);
            }
            for (int what = 0; what < 8; what++) {
                Check.due("new: line", x.line(line, what), NONE);
            }
            Check.dueFloat("new: reference", x.reference(line, 0), 0f);
            Check.dueFloat("new: reference", x.reference(line, 1), 0f);
        }
    }

    private static void setSegment() {
        CompositeDecoder x = new CompositeDecoder();
        Check.due("the first Y", x.setSegment(0, 0, 200, 60, -60), 0);
        Check.due("Y 200", x.setSegment(0, 0, 0, -60, 60), 200);
        Check.due("the last segment", x.setSegment(7, 9, 17, 0, 0), 0);
        Check.due("the last segment again", x.setSegment(7, 9, 18, 0, 0), 17);
        Check.due("the segment beside it", x.setSegment(7, 8, 5, 0, 0), 0);
        Check.due("the segment's sample", x.sample(7, 24 + 72), 18);
        Check.due("line -1", x.setSegment(-1, 0, 1, 0, 0), UNKNOWN);
        Check.due("line 8", x.setSegment(8, 0, 1, 0, 0), UNKNOWN);
        Check.due("segment -1", x.setSegment(1, -1, 1, 0, 0), UNKNOWN);
        Check.due("segment 10", x.setSegment(1, 10, 1, 0, 0), UNKNOWN);
        Check.due("line ahead of values", x.setSegment(8, 0, -1, 99, 99), UNKNOWN);
        Check.due("segment ahead of values", x.setSegment(0, 10, 201, 0, 0), UNKNOWN);
        int[][] bad = {{-1, 0, 0}, {201, 0, 0}, {0, -61, 0}, {0, 61, 0}, {0, 0, -61}, {0, 0, 61},
            {Integer.MIN_VALUE, 0, 0}, {0, Integer.MAX_VALUE, 0}};
        for (int[] b : bad) {
            Check.due("a bad value", x.setSegment(7, 9, b[0], b[1], b[2]), BAD_VALUE);
        }
        Check.due("bad calls change nothing", x.setSegment(7, 9, 0, 0, 0), 18);
        Check.due("bad calls change nothing", x.fill(2, 0, 0, 0), 0);
    }

    private static void fill() {
        CompositeDecoder x = new CompositeDecoder();
        Check.due("fill with what is there", x.fill(3, 0, 0, 0), 0);
        Check.due("fill", x.fill(3, 200, 60, -60), 10);
        Check.due("fill again", x.fill(3, 200, 60, -60), 0);
        x.setSegment(3, 0, 199, 60, -60);
        x.setSegment(3, 4, 200, 59, -60);
        x.setSegment(3, 9, 200, 60, -59);
        Check.due("fill over three others", x.fill(3, 200, 60, -60), 3);
        Check.due("fill by V alone", x.fill(3, 200, 60, 60), 10);
        Check.due("fill by U alone", x.fill(3, 200, -60, 60), 10);
        Check.due("fill by Y alone", x.fill(3, 0, -60, 60), 10);
        Check.due("the line above stays", x.fill(2, 0, 0, 0), 0);
        Check.due("the line below stays", x.fill(4, 0, 0, 0), 0);
        Check.due("line -1", x.fill(-1, 0, 0, 0), UNKNOWN);
        Check.due("line 8 ahead of values", x.fill(8, 201, 0, 0), UNKNOWN);
        int[][] bad = {{-1, 0, 0}, {201, 0, 0}, {0, -61, 0}, {0, 61, 0}, {0, 0, -61}, {0, 0, 61}};
        for (int[] b : bad) {
            Check.due("a bad value", x.fill(3, b[0], b[1], b[2]), BAD_VALUE);
        }
        Check.due("bad calls change nothing", x.fill(3, 0, -60, 60), 0);
    }

    private static void setLine() {
        CompositeDecoder x = new CompositeDecoder();
        Check.due("the first jitter", x.setLine(5, -4, 40, 3, 9), 0);
        Check.due("jitter -4", x.setLine(5, 4, 0, 0, 0), -4);
        Check.due("jitter 4", x.setLine(5, 1, 13, 2, 1), 4);
        Check.due("line -1", x.setLine(-1, 0, 0, 0, 0), UNKNOWN);
        Check.due("line 8 ahead of values", x.setLine(8, 5, 0, 0, 0), UNKNOWN);
        x.miss(5, true);
        int[][] bad = {{-5, 0, 0, 0}, {5, 0, 0, 0}, {0, -1, 0, 0}, {0, 41, 0, 0},
            {0, 0, -1, 0}, {0, 0, 4, 0}, {0, 0, 0, -1}, {0, 0, 0, 10}};
        for (int[] b : bad) {
            Check.due("a bad value", x.setLine(5, b[0], b[1], b[2], b[3]), BAD_VALUE);
        }
        Check.due("bad calls leave the pulse", x.miss(5, true), 1);
        // h = 9, t = (18 + 10 + 2) mod 4 = 2; the noise is (7 * 18 + 13 * 5) mod 5 - 2 = -1.
        Check.due("bad calls leave the line", x.sample(5, 18), -1);
        Check.due("bad calls leave the amplitude", x.sample(5, 19), 13 + 1);
        Check.due("the same jitter", x.setLine(5, 1, 13, 2, 1), 1);
        Check.due("the pulse is there again", x.miss(5, false), 0);
    }

    private static void miss() {
        CompositeDecoder x = new CompositeDecoder();
        Check.due("miss", x.miss(0, true), 0);
        Check.due("a missing pulse", x.sample(0, 8), 0);
        Check.due("another line's pulse", x.sample(1, 8), -40);
        Check.due("miss again", x.miss(0, true), 1);
        Check.due("there again", x.miss(0, false), 1);
        Check.due("there", x.miss(0, false), 0);
        Check.due("the pulse", x.sample(0, 8), -40);
        Check.due("the last line", x.miss(7, true), 0);
        Check.due("line -1", x.miss(-1, true), UNKNOWN);
        Check.due("line 8", x.miss(8, true), UNKNOWN);
    }

    private static void setStandard() {
        CompositeDecoder x = new CompositeDecoder();
        Check.due("standard 1", x.setStandard(1), 0);
        Check.due("standard 1 again", x.setStandard(1), 1);
        Check.due("standard 2", x.setStandard(2), BAD_VALUE);
        Check.due("standard -1", x.setStandard(-1), BAD_VALUE);
        Check.due("the count tells it", x.count(13), 1);
        Check.due("standard 0", x.setStandard(0), 1);
        Check.due("the count tells it", x.count(13), 0);
    }

    private static void plainSamples() {
        CompositeDecoder x = new CompositeDecoder();
        x.fill(0, 100, 20, -30);
        x.fill(1, 100, 20, -30);
        x.setSegment(0, 1, 50, 1, 2);
        x.setSegment(0, 9, 60, 3, 4);
        samples(x, 0, 0, 0, 0, 0, 0, 0, 0, 0, 0);
        samples(x, 0, 8, -40, -40, -40, -40, -40, -40, -40, -40);
        samples(x, 0, 16, 0, -20, 0, 20, 0, -20, 0, 20);
        samples(x, 0, 24, 70, 120, 130, 80, 70, 120, 130, 80);
        samples(x, 0, 32, 52, 51, 48, 49, 52, 51, 48, 49);
        samples(x, 0, 40, 70, 120, 130, 80, 70, 120, 130, 80);
        samples(x, 0, 96, 64, 63, 56, 57, 64, 63, 56, 57);
        samples(x, 0, 104, 0, 0, 0, 0, 0, 0, 0, 0);
        samples(x, 1, 16, 0, 20, 0, -20, 0, 20, 0, -20);
        samples(x, 1, 24, 130, 80, 70, 120, 130, 80, 70, 120);
    }

    private static void jitterAndPhase() {
        CompositeDecoder x = new CompositeDecoder();
        x.fill(0, 100, 20, -30);
        x.setLine(0, -4, 20, 0, 0);
        samples(x, 0, 0, 0, 0, 0, 0, -40, -40, -40, -40, -40, -40, -40, -40, 0, -20, 0, 20, 0, -20, 0, 20, 70, 120);
        samples(x, 0, 96, 70, 120, 130, 80, 0, 0);
        x.setLine(0, 4, 20, 0, 0);
        samples(x, 0, 8, 0, 0, 0, 0, -40, -40, -40, -40, -40, -40, -40, -40, 0, -20, 0, 20, 0, -20, 0, 20, 70, 120);
        samples(x, 0, 104, 70, 120, 130, 80, 0, 0, 0, 0);
        x.setLine(0, 0, 40, 1, 0);
        samples(x, 0, 16, -40, 0, 40, 0, -40, 0, 40, 0, 120, 130, 80, 70);
        x.setLine(0, 0, 40, 3, 0);
        samples(x, 0, 16, 40, 0, -40, 0, 40, 0, -40, 0, 80, 70, 120, 130);
        x.setLine(0, 0, 0, 2, 0);
        samples(x, 0, 16, 0, 0, 0, 0, 0, 0, 0, 0, 130, 80, 70, 120);
    }

    private static void noise() {
        CompositeDecoder x = new CompositeDecoder();
        x.setLine(0, 0, 0, 0, 9);
        samples(x, 0, 0, -18, 0, 18, -9, 9, -18, 0, 18, -49, -31, -58);
        samples(x, 0, 107, 18, -9, 9, -18, 0);
        x.setLine(1, 0, 0, 0, 1);
        samples(x, 1, 0, 1, -2, 0, 2, -1, 1);
        x.setLine(7, 0, 0, 0, 2);
        samples(x, 7, 0, -2, 2, -4, 0, 4, -2);
    }

    private static void turnedSamples() {
        CompositeDecoder x = new CompositeDecoder();
        x.setStandard(1);
        x.fill(0, 100, 20, -30);
        x.fill(1, 100, 20, -30);
        samples(x, 0, 16, 20, -20, -20, 20, 20, -20, -20, 20, 70, 120, 130, 80);
        samples(x, 1, 16, 20, 20, -20, -20, 20, 20, -20, -20, 70, 80, 130, 120);
        x.setLine(1, 0, 10, 1, 0);
        samples(x, 1, 16, 10, -10, -10, 10, 10, -10, -10, 10, 80, 130, 120, 70);
        x.setStandard(0);
        samples(x, 1, 16, 10, 0, -10, 0, 10, 0, -10, 0, 80, 70, 120, 130);
    }

    private static void wrongSamples() {
        CompositeDecoder x = new CompositeDecoder();
        Check.due("line -1", x.sample(-1, 0), UNKNOWN);
        Check.due("line 8 ahead of k", x.sample(8, 112), UNKNOWN);
        Check.due("k -1", x.sample(0, -1), BAD_VALUE);
        Check.due("k 112", x.sample(7, 112), BAD_VALUE);
        Check.due("k at the end of int", x.sample(7, Integer.MAX_VALUE), BAD_VALUE);
        Check.due("k 0", x.sample(0, 0), 0);
        Check.due("k 111", x.sample(7, 111), 0);
    }

    private static void samples(CompositeDecoder x, int line, int first, int... want) {
        for (int i = 0; i < want.length; i++) {
            Check.due("sample(" + line + ", " + (first + i) + ")", x.sample(line, first + i), want[i]);
        }
    }
}
