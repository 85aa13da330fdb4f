/** Promises 20 and 21: motion and noise, and the counts. */
public final class MotionTest {
    private static final int UNKNOWN = CompositeDecoder.UNKNOWN;
    private static final int BAD_VALUE = CompositeDecoder.BAD_VALUE;
    private static final int NONE = CompositeDecoder.NONE;

    public static void main(String[] args) {
        aloneIsNoise();
        neighborsMove();
        limitOfTheDecoding();
        beforeTheSecond();
        countsOfPairs();
        countsOfLuma();
        countsOfWays();
        countsOfNow();
        Check.finish();
    }

    /** With the comb 1 and no colors, the luma is half the line's own Y and half that of the line above. */
    private static CompositeDecoder gray() {
        CompositeDecoder x = new CompositeDecoder();
        x.set(2, 1);
        for (int n = 0; n < 8; n++) {
            x.fill(n, 100, 0, 0);
        }
        return x;
    }

    private static void aloneIsNoise() {
        CompositeDecoder x = gray();
        x.decode();
        // Combed with the line above: a segment's change of 40 is 20 here and 20 in the line below.
        x.setSegment(7, 9, 140, 0, 0);
        x.decode();
        Check.due("luma", x.luma(7, 9), 120);
        Check.due("alone", x.motion(7, 9), 1);
        Check.due("its neighbor", x.motion(7, 8), 0);
        Check.due("noise", x.count(8), 1);
        Check.due("moving", x.count(7), 0);
        x.decode();
        Check.due("no change since", x.motion(7, 9), 0);
        Check.due("noise", x.count(8), 0);
    }

    private static void neighborsMove() {
        CompositeDecoder x = gray();
        x.decode();
        x.setSegment(3, 3, 60, 0, 0);
        x.decode();
        Check.due("above the other", x.motion(3, 3), 2);
        Check.due("below the other", x.motion(4, 3), 2);
        Check.due("not changed", x.motion(2, 3), 0);
        Check.due("moving", x.count(7), 2);
        x.setSegment(7, 0, 140, 0, 0);
        x.setSegment(7, 1, 140, 0, 0);
        x.decode();
        Check.due("left of the other", x.motion(7, 0), 2);
        Check.due("right of the other", x.motion(7, 1), 2);
        Check.due("moving", x.count(7), 2);
        // The last segment of a line and the first one of the next line do not touch, nor do corners.
        x.setSegment(7, 0, 100, 0, 0);
        x.setSegment(7, 9, 140, 0, 0);
        x.decode();
        Check.due("alone at the left", x.motion(7, 0), 1);
        Check.due("alone at the right", x.motion(7, 9), 1);
        Check.due("noise", x.count(8), 2);
        x.set(2, 0);
        x.decode();
        x.setSegment(0, 0, 160, 0, 0);
        x.decode();
        Check.due("the first segment alone", x.motion(0, 0), 1);
        Check.due("noise", x.count(8), 1);
    }

    private static void limitOfTheDecoding() {
        CompositeDecoder x = gray();
        x.decode();
        x.setSegment(7, 5, 120, 0, 0);
        x.decode();
        Check.due("10 is not more than 10", x.motion(7, 5), 0);
        x.setSegment(7, 5, 142, 0, 0);
        x.decode();
        Check.due("11 is more than 10", x.motion(7, 5), 1);
        x.set(1, 100);
        Check.due("the limit then", x.motion(7, 5), 1);
        x.setSegment(7, 5, 100, 0, 0);
        x.decode();
        Check.due("the limit now", x.motion(7, 5), 0);
        x.set(1, 0);
        x.setSegment(7, 5, 102, 0, 0);
        x.decode();
        Check.due("1 is more than 0", x.motion(7, 5), 1);
    }

    private static void beforeTheSecond() {
        CompositeDecoder x = gray();
        int[][] wrong = {{-1, 0}, {8, 0}, {0, -1}, {0, 10}};
        for (int i = 0; i < 3; i++) {
            for (int[] w : wrong) {
                Check.due("motion", x.motion(w[0], w[1]), UNKNOWN);
            }
            Check.due("motion", x.motion(0, 0), i < 2 ? NONE : 0);
            Check.due("moving", x.count(7), i < 2 ? NONE : 0);
            Check.due("noise", x.count(8), i < 2 ? NONE : 0);
            Check.due("decodings", x.count(0), i);
            Check.due("steady", x.count(3), i < 1 ? NONE : 7);
            x.decode();
        }
    }

    private static void countsOfPairs() {
        CompositeDecoder x = new CompositeDecoder();
        x.decode();
        pairs(x, 0, 0, 7);
        x.setStandard(1);
        pairs(x, 0, 0, 7);
        x.decode();
        pairs(x, 1, 7, 0);
        x.set(3, 0);
        x.decode();
        pairs(x, 1, 7, 0);
        // A bad burst takes two pairs away: 5 are left; then 3, 3 of them turned.
        x.setLine(2, 0, 0, 0, 0);
        x.decode();
        pairs(x, 1, 5, 0);
        x.setLine(4, 0, 0, 0, 0);
        x.decode();
        pairs(x, 1, 3, 0);
        // Phase 2 turns Q around: the line 6 is then as the lines 5 and 7 are.
        x.setLine(6, 0, 20, 2, 0);
        x.decode();
        pairs(x, 0, 1, 2);
        // As many turned as steady ones: 0.
        x.setLine(6, 0, 0, 0, 0);
        x.setLine(2, 0, 20, 2, 0);
        x.setLine(4, 0, 20, 0, 0);
        x.setLine(5, 0, 0, 0, 0);
        x.decode();
        pairs(x, 0, 2, 2);
        thresholds();
    }

    private static void thresholds() {
        // The phases 1 and 3 give Q alone, 40 and -40 in turns: the threshold 10 is the last one that is met.
        CompositeDecoder x = new CompositeDecoder();
        for (int n = 0; n < 8; n++) {
            x.setLine(n, 0, 10, n % 2 == 0 ? 1 : 3, 0);
        }
        x.decode();
        pairs(x, 1, 7, 0);
        x.set(0, 10);
        x.decode();
        pairs(x, 1, 7, 0);
        x.set(0, 11);
        x.decode();
        pairs(x, 0, 0, 0);
        // Noise alone gives Q -3 times it in the line 0, and 3 times it in the line 1, beside good bursts.
        smallSums(3, 3, 9, 1);
        smallSums(3, 3, 10, 0);
        smallSums(2, 9, 6, 1);
        smallSums(2, 9, 7, 0);
        smallSums(9, 2, 6, 1);
        smallSums(9, 2, 7, 0);
    }

    private static void smallSums(int above, int below, int threshold, int turned) {
        CompositeDecoder x = new CompositeDecoder();
        x.setLine(0, 0, 20, 0, above);
        x.setLine(1, 0, 20, 0, below);
        x.set(0, threshold);
        x.decode();
        Check.due("Q of the line 0", x.line(0, 4), -3 * above);
        Check.due("Q of the line 1", x.line(1, 4), 3 * below);
        pairs(x, 0, turned, 7 - turned);
    }

    private static void pairs(CompositeDecoder x, int guessed, int turned, int steady) {
        Check.due("guessed", x.count(1), guessed);
        Check.due("turned", x.count(2), turned);
        Check.due("steady", x.count(3), steady);
    }

    private static void countsOfLuma() {
        CompositeDecoder x = gray();
        x.set(2, 2);
        x.decode();
        Check.due("wrong lumas", x.count(5), 0);
        Check.due("differences", x.count(6), 0);
        x.setSegment(0, 0, 93, 0, 0);
        Check.due("the first segment", x.count(5), 1);
        Check.due("the first segment", x.count(6), 7);
        x.setSegment(0, 0, 100, 0, 0);
        x.setSegment(2, 2, 90, 0, 0);
        x.setSegment(2, 3, 120, 0, 0);
        Check.due("against the picture now", x.count(5), 2);
        Check.due("without signs", x.count(6), 30);
        x.decode();
        // With both: half of the change stays, a quarter goes to the lines above and below, rounded down.
        Check.due("luma", x.luma(2, 2), 95);
        Check.due("luma above", x.luma(1, 2), 97);
        Check.due("luma below", x.luma(3, 3), 105);
        Check.due("wrong lumas", x.count(5), 6);
        Check.due("differences", x.count(6), 5 + 3 + 3 + 10 + 5 + 5);
    }

    private static void countsOfWays() {
        CompositeDecoder x = gray();
        x.set(2, 3);
        x.setSegment(3, 3, 200, 0, 0);
        x.decode();
        Check.due("notch", x.count(9), 1);
        Check.due("above", x.count(10), 10 + 1);
        Check.due("below", x.count(11), 10 + 1);
        Check.due("both", x.count(12), 57);
        x.set(2, 0);
        Check.due("of the latest decoding", x.count(12), 57);
        x.decode();
        Check.due("notch", x.count(9), 80);
        Check.due("both", x.count(12), 0);
    }

    private static void countsOfNow() {
        CompositeDecoder x = new CompositeDecoder();
        x.setStandard(1);
        x.type('w');
        x.set(0, 1);
        x.set(1, 2);
        x.set(2, 0);
        x.set(3, 1);
        int[] want = {1, 1, 1, 2, 0, 1};
        for (int what = 13; what < 19; what++) {
            Check.due("count " + what, x.count(what), want[what - 13]);
        }
        Check.due("count -1", x.count(-1), BAD_VALUE);
        Check.due("count 19", x.count(19), BAD_VALUE);
        Check.due("count at the end of int", x.count(Integer.MAX_VALUE), BAD_VALUE);
        x.decode();
        x.decode();
        Check.due("decodings", x.count(0), 2);
    }
}
