/** Promises 14 to 19: luma, combs, colors, and the reference. */
public final class ColorTest {
    private static final int UNKNOWN = CompositeDecoder.UNKNOWN;
    private static final int BAD_VALUE = CompositeDecoder.BAD_VALUE;
    private static final int NONE = CompositeDecoder.NONE;

    public static void main(String[] args) {
        combsOfAPlainPicture();
        nearness();
        lumaRoundsDown();
        notchAtEdges();
        beyondTheLine();
        linesAtTheirOwnStarts();
        colorsOfAPlainPicture();
        colorsAreTurned();
        colorIsOff();
        noReference();
        referenceFollows();
        referenceOfTheTurned();
        averaging();
        thousandths();
        wrongPlaces();
        Check.finish();
    }

    private static void combsOfAPlainPicture() {
        CompositeDecoder x = plain();
        int[][] ways = {{0, 0, 0}, {2, 1, 1}, {2, 3, 1}, {2, 3, 1}};
        for (int comb = 0; comb < 4; comb++) {
            x.set(2, comb);
            x.decode();
            for (int n = 0; n < 8; n++) {
                for (int i = 0; i < 10; i++) {
                    Check.due("comb " + comb, x.combed(n, i), ways[comb][n == 0 ? 0 : n == 7 ? 2 : 1]);
                    if (comb > 0) {
                        Check.due("comb " + comb + ": luma", x.luma(n, i), 100);
                    }
                }
            }
        }
        x.set(3, 1);
        for (int comb = 0; comb < 4; comb++) {
            x.set(2, comb);
            x.decode();
            Check.due("the standard 1 asks for the notch", x.combed(3, 3), 0);
        }
    }

    private static void nearness() {
        CompositeDecoder x = plain();
        x.setSegment(2, 4, 110, 20, -30);
        x.setSegment(4, 4, 90, 20, -30);
        x.decode();
        Check.due("10 apart is near", x.combed(2, 4), 3);
        Check.due("10 apart is near", x.combed(3, 4), 3);
        x.setSegment(2, 4, 111, 20, -30);
        x.decode();
        Check.due("11 apart is not near", x.combed(1, 4), 1);
        Check.due("11 apart is not near", x.combed(2, 4), 0);
        Check.due("11 apart is not near", x.combed(3, 4), 2);
        x.setSegment(2, 4, 100, 20, -30);
        x.setSegment(4, 4, 89, 20, -30);
        x.decode();
        Check.due("11 below is not near", x.combed(3, 4), 1);
        x.set(1, 0);
        x.setSegment(4, 4, 100, 20, -30);
        x.setSegment(6, 4, 101, 20, -30);
        x.decode();
        Check.due("the limit 0: alike is near", x.combed(3, 4), 3);
        Check.due("the limit 0: 1 apart is not", x.combed(5, 4), 1);
        Check.due("the limit 0: 1 apart is not", x.combed(6, 4), 0);
        Check.due("the limit 0: 1 apart is not", x.combed(7, 4), 0);
        x.setSegment(1, 9, 0, 20, -30);
        x.decode();
        Check.due("nothing near at the line 0", x.combed(0, 9), 0);
        Check.due("its neighbor", x.combed(0, 8), 2);
    }

    private static void lumaRoundsDown() {
        CompositeDecoder x = plain();
        x.set(2, 1);
        x.setSegment(3, 5, 103, 20, -30);
        x.decode();
        // M = 824, the chroma's sum is 2 * 24: (3296 - 48) / 32 = 101.5; below it (3200 + 48) / 32 = 101.5.
        Check.due("above", x.luma(3, 5), 101);
        Check.due("above, from the line below it", x.luma(4, 5), 101);
        x.set(2, 2);
        x.decode();
        // (3296 - 48) / 32 with both, (3200 + 24) / 32 = 100.75 beside it.
        Check.due("both", x.luma(3, 5), 101);
        Check.due("both, from the line below it", x.luma(4, 5), 100);
        CompositeDecoder dark = new CompositeDecoder();
        dark.set(2, 1);
        dark.setLine(3, 0, 20, 0, 1);
        dark.decode();
        // The noise of the samples 56 to 63 is -1 1 -2 0 2 -1 1 -2, in all -2: (-8 + 4) / 32, and (0 - 4) / 32 below it.
        Check.due("below 0", dark.luma(3, 4), -1);
        Check.due("below 0, from the line below it", dark.luma(4, 4), -1);
    }

    private static void notchAtEdges() {
        CompositeDecoder x = plain();
        x.set(2, 0);
        x.setSegment(4, 5, 140, 20, -30);
        x.setSegment(4, 6, 200, 20, -30);
        x.decode();
        // The chroma's sum is 2 * 40 at the left edge and 2 * -60 at the right one: (4480 + 40) / 32.
        Check.due("between 100 and 200", x.luma(4, 5), 141);
        // Left of it: 2 * -40; right of it: 2 * 60 and 2 * 100.
        Check.due("below an edge", x.luma(4, 4), 102);
        Check.due("above two edges", x.luma(4, 6), 190);
        // At the left end 2 samples of the burst (0 and 20, -20 by turns), at the right end 2 samples of nothing.
        Check.due("the left end", x.luma(4, 0), 94);
        Check.due("the right end", x.luma(4, 9), 94);
        x.setLine(4, 0, 20, 0, 3);
        x.decode();
        int left = 0;
        for (int k = 64; k < 72; k++) {
            left += 2 * x.sample(4, k) + x.sample(4, k - 2) + x.sample(4, k + 2);
        }
        Check.due("with noise: (4 * M - C) / 32", x.luma(4, 5), Math.floorDiv(left, 32));
    }

    /** A start that is late by 12 samples: the last segments lie beyond the line, where all is 0. */
    private static void beyondTheLine() {
        CompositeDecoder x = plain();
        x.set(2, 0);
        x.setStandard(1);
        x.setLine(0, -2, 40, 1, 0);
        x.miss(0, true);
        x.fill(0, 0, 60, -60);
        x.setSegment(0, 8, 200, 0, 0);
        x.setSegment(0, 9, 200, 0, 0);
        x.decode();
        Check.due("the start", x.line(0, 1), 20);
        // Read from 100 on: the line's last two samples of 200, then nothing; the chroma's sum is 4 * 200 - 4 * 200.
        Check.due("the last but one", x.luma(0, 8), 50);
        Check.due("the last", x.luma(0, 9), 0);
    }

    private static void linesAtTheirOwnStarts() {
        CompositeDecoder x = plain();
        for (int n = 0; n < 8; n++) {
            x.setLine(n, n % 2 == 0 ? 4 : -4, 20, 0, 0);
            for (int i = 0; i < 10; i++) {
                x.setSegment(n, i, 20 * i, 20, -30);
            }
        }
        Check.due("never locked", x.decode(), 0);
        for (int n = 0; n < 8; n++) {
            Check.due("each at its pulse", x.line(n, 1), n % 2 == 0 ? 12 : 4);
            for (int i = 0; i < 10; i++) {
                Check.due("luma at its own start", x.luma(n, i), 20 * i);
                Check.due("combed at its own start", x.combed(n, i), n == 0 ? 2 : n == 7 ? 1 : 3);
                Check.dueFloat("u at its own start", x.u(n, i), 20f);
                Check.dueFloat("v at its own start", x.v(n, i), -30f);
            }
        }
        Check.due("no differences", x.count(6), 0);
    }

    private static void colorsOfAPlainPicture() {
        CompositeDecoder x = plain();
        for (int comb = 1; comb < 4; comb++) {
            x.set(2, comb);
            x.decode();
            for (int n = 0; n < 8; n++) {
                Check.dueFloat("u", x.u(n, 9), 20f);
                Check.dueFloat("v", x.v(n, 0), -30f);
            }
        }
        x.set(2, 0);
        x.decode();
        for (int i = 1; i < 9; i++) {
            Check.dueFloat("the notch inside", x.u(4, i), 20f);
            Check.dueFloat("the notch inside", x.v(4, i), -30f);
            Check.due("the notch inside", x.luma(4, i), 100);
        }
        x.setSegment(4, 5, 60, -40, 50);
        x.set(2, 1);
        x.decode();
        // Half the color of the line and half of the one that it is combed with.
        Check.dueFloat("u with the line above", x.u(4, 5), -10f);
        Check.dueFloat("v with the line above", x.v(4, 5), 10f);
        Check.dueFloat("u with the line above", x.u(5, 5), -10f);
        Check.dueFloat("u of another segment", x.u(4, 6), 20f);
    }

    private static void colorsAreTurned() {
        CompositeDecoder x = plain();
        for (int phase = 1; phase < 4; phase++) {
            for (int n = 0; n < 8; n++) {
                x.setLine(n, 0, 10, phase, 0);
            }
            x.decode();
            Check.dueFloat("u with half a burst is twice as much", x.u(5, 5), 40f);
            Check.dueFloat("v with half a burst is twice as much", x.v(5, 5), -60f);
            Check.dueFloat("rp", x.reference(5, 0), phase == 2 ? -40f : 0f);
            Check.dueFloat("rq", x.reference(5, 1), phase == 1 ? 40f : phase == 3 ? -40f : 0f);
        }
    }

    private static void colorIsOff() {
        CompositeDecoder x = plain();
        x.setLine(3, 0, 0, 0, 0);
        x.setLine(4, 0, 0, 0, 0);
        x.decode();
        Check.dueFloat("the first bad burst leaves color on", x.u(3, 3), 20f);
        Check.dueFloat("off at the second one", x.u(4, 3), 0f);
        Check.dueFloat("off at the second one", x.v(4, 3), 0f);
        Check.dueFloat("off at the first good one", x.u(5, 3), 0f);
        Check.dueFloat("on at the second good one", x.u(6, 3), 20f);
        Check.due("luma stays", x.luma(4, 3), 100);
        Check.dueFloat("the reference stays", x.reference(4, 0), 80f);
    }

    private static void noReference() {
        CompositeDecoder x = plain();
        x.decode();
        x.setLine(0, 0, 0, 0, 0);
        x.decode();
        Check.due("color is on", x.line(0, 6), 1);
        Check.dueFloat("no reference yet, nor that of the decoding before", x.reference(0, 0), 0f);
        Check.dueFloat("no color without one", x.u(0, 0), 0f);
        Check.dueFloat("no color without one", x.v(0, 0), 0f);
        Check.dueFloat("the first one", x.reference(1, 0), 80f);
        Check.dueFloat("color with it", x.u(1, 0), 20f);
    }

    private static void referenceFollows() {
        CompositeDecoder x = new CompositeDecoder();
        x.setLine(1, 0, 40, 0, 0);
        x.setLine(2, 0, 20, 1, 0);
        x.setLine(3, 0, 5, 0, 0);
        x.decode();
        references(x, 0, 80f, 0f);
        references(x, 1, 100f, 0f);
        references(x, 2, 75f, 20f);
        references(x, 3, 75f, 20f);
        references(x, 4, 76.25f, 15f);
        // One turn by rp alone and one by rq alone: u = (e * rp + f * rq) * 80 / g with rp 75 and rq 20.
        for (int n = 0; n < 8; n++) {
            x.fill(n, 100, 20, -30);
        }
        x.setLine(2, 0, 20, 1, 0);
        x.set(2, 0);
        x.decode();
        // t is one less than the phase made it: e = V * 1, f = U * 1 and signs: e = 30 / .. by hand below.
        float e = 30f;
        float f = 20f;
        float g = 75f * 75f + 20f * 20f;
        Check.dueFloat("u", x.u(2, 5), (e * 75f + f * 20f) * 80f / g);
        Check.dueFloat("v", x.v(2, 5), (f * 75f - e * 20f) * 80f / g);
    }

    private static void referenceOfTheTurned() {
        CompositeDecoder x = new CompositeDecoder();
        x.setStandard(1);
        x.setLine(3, 0, 5, 0, 0);
        x.decode();
        // P is -80 but -20 in the line 3; Q is 80 and -80 in turns, -20 in the line 3, whose burst counts as good.
        references(x, 0, 80f, -80f);
        references(x, 1, 80f, -60f);
        references(x, 2, 80f, -45f);
        references(x, 3, 72.5f, -41.25f);
        x.set(0, 11);
        x.decode();
        references(x, 2, 80f, -45f);
        references(x, 3, 80f, -45f);
        // The line before counts whatever its burst is: m = 50, w = -30.
        references(x, 4, 72.5f, -41.25f);
        x.set(3, 0);
        x.decode();
        references(x, 1, 80f, -40f);
        x.setLine(0, 0, 0, 0, 0);
        x.set(3, 1);
        x.decode();
        references(x, 0, 0f, 0f);
        references(x, 1, 40f, 40f);
        x.setLine(0, 0, 15, 0, 1);
        x.set(0, 8);
        x.decode();
        // Halves stay: P + P' or Q + Q' is odd with this noise.
        float rp = -x.line(0, 3);
        float m = (float) -(x.line(0, 3) + x.line(1, 3)) / 2f;
        references(x, 1, rp + (m - rp) * 0.25f, x.reference(1, 1));
    }

    private static void averaging() {
        CompositeDecoder x = new CompositeDecoder();
        x.setStandard(1);
        for (int n = 0; n < 8; n++) {
            x.fill(n, 120, 40, 10);
        }
        x.decode();
        // The raw colors: 15, 25 in the line 0; (e, f) = (40, -10) and (80, -60) in the line 1: u' = 30.4, v' = -12.8.
        Check.dueFloat("u of the line 0", x.u(0, 4), 15f);
        Check.dueFloat("v of the line 0", x.v(0, 4), 25f);
        float g = 80f * 80f + 60f * 60f;
        float u = (40f * 80f + -10f * -60f) * 80f / g;
        float v = 0f - (-10f * 80f - 40f * -60f) * 80f / g;
        Check.dueFloat("u of the line 1", x.u(1, 4), (u + 15f) * 0.5f);
        Check.dueFloat("v of the line 1", x.v(1, 4), (v + 25f) * 0.5f);
        // The bursts of the lines 4 and 5 are bad: raw colors are 0 at 5 and 6, which the lines 5 to 7 share.
        x.setLine(4, 0, 0, 0, 0);
        x.setLine(5, 0, 0, 0, 0);
        x.decode();
        Check.due("color at 6", x.line(6, 6), 0);
        Check.dueFloat("off twice", x.u(6, 4), 0f);
        Check.due("half of 0 is shared", x.u(5, 4) != 0f ? 1 : 0, 1);
        Check.due("half of 0 is shared", x.u(7, 4) != 0f ? 1 : 0, 1);
        x.set(3, 0);
        x.set(2, 0);
        x.decode();
        Check.dueFloat("no averaging with the standard 0", x.u(0, 4), 15f);
        Check.dueFloat("no averaging with the standard 0", x.u(5, 4), 0f);
    }

    private static void thousandths() {
        CompositeDecoder x = new CompositeDecoder();
        x.set(0, 1);
        for (int n = 0; n < 8; n++) {
            x.fill(n, 100, 20, -30);
            x.setLine(n, 0, 3, 0, 0);
        }
        x.set(2, 2);
        x.decode();
        // 20 * 20 / 3 = 133.333..; -30 * 20 / 3 = -200.
        Check.due("u", x.thousandths(4, 4, 0), 133333);
        Check.due("v", x.thousandths(4, 4, 1), -200000);
        for (int n = 0; n < 8; n++) {
            x.fill(n, 100, -20, 10);
        }
        x.decode();
        Check.due("cut towards 0", x.thousandths(4, 4, 0), -133333);
        Check.due("cut towards 0", x.thousandths(4, 4, 1), 66666);
    }

    private static void wrongPlaces() {
        CompositeDecoder x = plain();
        places(x, NONE, NONE);
        x.decode();
        places(x, 100, 3);
        Check.due("thousandths", x.thousandths(3, 3, 2), BAD_VALUE);
    }

    private static void places(CompositeDecoder x, int luma, int way) {
        int[][] wrong = {{-1, 0}, {8, 0}, {0, -1}, {0, 10}, {Integer.MIN_VALUE, 0}, {0, Integer.MAX_VALUE}};
        for (int[] w : wrong) {
            Check.due("luma", x.luma(w[0], w[1]), UNKNOWN);
            Check.due("combed", x.combed(w[0], w[1]), UNKNOWN);
            Check.due("thousandths, UNKNOWN first", x.thousandths(w[0], w[1], 2), UNKNOWN);
            Check.dueFloat("u", x.u(w[0], w[1]), 0f);
            Check.dueFloat("v", x.v(w[0], w[1]), 0f);
        }
        Check.due("luma", x.luma(3, 3), luma);
        Check.due("combed", x.combed(3, 3), way);
        Check.due("thousandths, BAD_VALUE first", x.thousandths(3, 3, -1), BAD_VALUE);
        Check.due("thousandths, BAD_VALUE first", x.thousandths(3, 3, 2), BAD_VALUE);
        Check.due("thousandths", x.thousandths(3, 3, 0), luma == NONE ? NONE : 20000);
        Check.dueFloat("reference", x.reference(-1, 0), 0f);
        Check.dueFloat("reference", x.reference(8, 0), 0f);
        Check.dueFloat("reference", x.reference(0, -1), 0f);
        Check.dueFloat("reference", x.reference(0, 2), 0f);
        Check.dueFloat("reference", x.reference(0, 0), luma == NONE ? 0f : 80f);
    }

    private static void references(CompositeDecoder x, int n, float rp, float rq) {
        Check.dueFloat("reference(" + n + ", 0)", x.reference(n, 0), rp);
        Check.dueFloat("reference(" + n + ", 1)", x.reference(n, 1), rq);
    }

    private static CompositeDecoder plain() {
        CompositeDecoder x = new CompositeDecoder();
        for (int n = 0; n < 8; n++) {
            Check.due("fill", x.fill(n, 100, 20, -30), 10);
        }
        return x;
    }
}
