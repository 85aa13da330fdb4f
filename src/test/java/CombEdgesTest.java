/** Promises 14 to 18, and the terms Combs and Colors: each sentence that names an edge. */
public final class CombEdgesTest {
    private static final int NONE = CompositeDecoder.NONE;
    private static final int NOTCH = 0;
    private static final int ABOVE = 1;
    private static final int BELOW = 2;
    private static final int BOTH = 3;

    public static void main(String[] args) {
        theCombsOfTheFirstAndTheLastLine();
        theTurnedStandardAsksForTheNotch();
        eachWayTakesItsOwnLines();
        aLineIsNearUpToEightLimits();
        theLimitZero();
        theLimitHundred();
        oneNearLineOrNone();
        noLineIsNearBeyondThePicture();
        theNotchReadsTwoSamplesBeyondASegment();
        samplesBeyondTheLineAreZero();
        lumasAreRoundedDown();
        aThirtySecondBelowAWholeLumaIsLess();
        linesAreComparedFromTheirOwnStarts();
        colorsAreOffFromTheSecondBadBurstOn();
        noColorWithoutAReference();
        aReferenceOfZeroGivesNoColor();
        theLargestColorsOfThePicture();
        oddLinesOfTheTurnedStandard();
        theLineZeroIsNotAveraged();
        aLineBelowColorsThatAreOff();
        floatsFromLeftToRight();
        thousandthsAreCutOffTowardsZero();
        thousandthsAreFloats();
        thousandthsBeyondAnInt();
        beforeTheFirstDecoding();
        theDecodingStaysAsItWas();
        Check.finish();
    }

    /** "with the comb 1, the line above, or the line below for the line 0; with the comb 2, both, or the only one there is". */
    private static void theCombsOfTheFirstAndTheLastLine() {
        ways(0, NOTCH, NOTCH, NOTCH);
        ways(1, BELOW, ABOVE, ABOVE);
        ways(2, BELOW, BOTH, ABOVE);
        ways(3, BELOW, BOTH, ABOVE);
    }

    private static void ways(int comb, int first, int inside, int last) {
        CompositeDecoder x = plain(100, 20, -30);
        x.set(2, comb);
        x.decode();
        for (int n = 0; n < 8; n++) {
            for (int i = 0; i < 10; i++) {
                int want = n == 0 ? first : n == 7 ? last : inside;
                Check.due("comb " + comb + ": combed(" + n + ", " + i + ")", x.combed(n, i), want);
            }
        }
        int[] counts = new int[4];
        counts[first] += 10;
        counts[inside] += 60;
        counts[last] += 10;
        for (int way = 0; way < 4; way++) {
            Check.due("comb " + comb + ": count of " + way, x.count(9 + way), counts[way]);
        }
    }

    /** "With the standard 1, and with the comb 0, the notch is used." */
    private static void theTurnedStandardAsksForTheNotch() {
        for (int comb = 0; comb < 4; comb++) {
            CompositeDecoder x = plain(100, 0, 0);
            x.set(2, comb);
            x.setStandard(1);
            x.decode();
            Check.due("guessed 1: the notch", x.count(9), 80);
            x.set(3, 0);
            x.decode();
            Check.due("taken 0, though the signal is turned", x.count(9), comb == 0 ? 80 : 0);
            x.set(3, 1);
            x.setStandard(0);
            x.decode();
            Check.due("taken 1, though the signal is steady", x.count(9), 80);
        }
    }

    /** The chroma of each way: half of the line's own Y, and half of those of the lines that are used with it. */
    private static void eachWayTakesItsOwnLines() {
        CompositeDecoder x = plain(100, 0, 0);
        x.fill(2, 60, 0, 0);
        x.fill(4, 140, 20, 40);
        int[] lumas = {100, 80, 100, 100};
        for (int comb = 0; comb < 3; comb++) {
            x.set(2, comb);
            x.decode();
            Check.due("comb " + comb, x.luma(3, 5), lumas[comb]);
        }
        // With both, a quarter of the colors of the line below: its carrier stands the other way, and is taken away.
        Check.dueFloat("u with both", x.u(3, 5), 5f);
        Check.dueFloat("v with both", x.v(3, 5), 10f);
        x.fill(2, 20, 0, 0);
        x.decode();
        Check.due("(20 + 2 * 100 + 140) / 4", x.luma(3, 5), 90);
        x.fill(4, 20, 0, 0);
        x.fill(2, 180, 0, 0);
        x.decode();
        Check.due("(180 + 2 * 100 + 20) / 4", x.luma(3, 5), 100);
        x.fill(0, 140, 0, 0);
        x.fill(1, 60, 0, 0);
        x.set(2, 1);
        x.decode();
        Check.due("the line 0 with the line below", x.luma(0, 5), 100);
        Check.due("the line 1 with the line above", x.luma(1, 5), 100);
        Check.due("the line 2 with the line above", x.luma(2, 5), 120);
    }

    /**
     * "differs from M by at most 8 * limit". A noise of 1 in the line 4 adds 0, -2, 1, -1 and 2 to the sums of its
     * segments 0 to 4: with Y 110 they are 80, 78, 81, 79 and 82 above those of the line 3, and with Y 90 below.
     */
    private static void aLineIsNearUpToEightLimits() {
        CompositeDecoder x = plain(100, 0, 0);
        x.setLine(4, 0, 20, 0, 1);
        x.fill(4, 110, 0, 0);
        x.decode();
        combed(x, 3, BOTH, BOTH, ABOVE, BOTH, ABOVE);
        combed(x, 4, BOTH, BOTH, NOTCH, BOTH, NOTCH);
        combed(x, 5, BOTH, BOTH, BELOW, BOTH, BELOW);
        x.fill(4, 90, 0, 0);
        x.decode();
        combed(x, 3, BOTH, ABOVE, BOTH, ABOVE, BOTH);
        combed(x, 4, BOTH, NOTCH, BOTH, NOTCH, BOTH);
        combed(x, 5, BOTH, BELOW, BOTH, BELOW, BOTH);
        x.set(1, 11);
        x.decode();
        combed(x, 4, BOTH, BOTH, BOTH, BOTH, BOTH);
    }

    /** The limit 0: a line is near that does not differ at all. */
    private static void theLimitZero() {
        CompositeDecoder x = plain(100, 0, 0);
        x.set(1, 0);
        x.setLine(4, 0, 20, 0, 1);
        x.decode();
        combed(x, 3, BOTH, ABOVE, ABOVE, ABOVE, ABOVE);
        combed(x, 4, BOTH, NOTCH, NOTCH, NOTCH, NOTCH);
        combed(x, 5, BOTH, BELOW, BELOW, BELOW, BELOW);
    }

    /** The limit 100: 8 * 100 is near, 801 is not. */
    private static void theLimitHundred() {
        CompositeDecoder x = plain(100, 0, 0);
        x.set(1, 100);
        x.setLine(4, 0, 20, 0, 1);
        x.fill(4, 200, 0, 0);
        x.decode();
        combed(x, 4, BOTH, BOTH, NOTCH, BOTH, NOTCH);
        x.fill(4, 0, 0, 0);
        x.decode();
        combed(x, 4, BOTH, NOTCH, BOTH, NOTCH, BOTH);
    }

    /** "both lines if both are near, one if only this one is near, and the notch if none is near". */
    private static void oneNearLineOrNone() {
        CompositeDecoder x = plain(100, 0, 0);
        x.setSegment(2, 0, 111, 0, 0);
        x.setSegment(4, 1, 111, 0, 0);
        x.setSegment(2, 2, 111, 0, 0);
        x.setSegment(4, 2, 89, 0, 0);
        x.setSegment(2, 3, 110, 0, 0);
        x.setSegment(4, 3, 90, 0, 0);
        x.decode();
        combed(x, 3, BELOW, ABOVE, NOTCH, BOTH, BOTH);
    }

    /** "if it exists": a dark picture has no dark lines above and below itself. */
    private static void noLineIsNearBeyondThePicture() {
        CompositeDecoder x = new CompositeDecoder();
        x.decode();
        combed(x, 0, BELOW, BELOW, BELOW, BELOW, BELOW);
        combed(x, 7, ABOVE, ABOVE, ABOVE, ABOVE, ABOVE);
        x.fill(0, 50, 0, 0);
        x.fill(7, 50, 0, 0);
        x.decode();
        combed(x, 0, NOTCH, NOTCH, NOTCH, NOTCH, NOTCH);
        combed(x, 1, BELOW, BELOW, BELOW, BELOW, BELOW);
        combed(x, 6, ABOVE, ABOVE, ABOVE, ABOVE, ABOVE);
        combed(x, 7, NOTCH, NOTCH, NOTCH, NOTCH, NOTCH);
    }

    /**
     * "2 * x(k) - x(k - 2) - x(k + 2)": with grays, the luma is (28 * Y + 2 * left + 2 * right) / 32. Left of the
     * segment 0 are the last two samples of the burst, 0 and 20 or -20; right of the segment 9 there is nothing.
     */
    private static void theNotchReadsTwoSamplesBeyondASegment() {
        CompositeDecoder x = new CompositeDecoder();
        x.set(2, 0);
        x.setSegment(2, 4, 160, 0, 0);
        x.decode();
        Check.due("the segment itself: 28 * 160 / 32", x.luma(2, 4), 140);
        Check.due("to its left: 2 * 160 / 32", x.luma(2, 3), 10);
        Check.due("to its right", x.luma(2, 5), 10);
        Check.due("two to its left", x.luma(2, 2), 0);
        Check.due("two to its right", x.luma(2, 6), 0);
        Check.due("above", x.luma(1, 4), 0);
        Check.due("below", x.luma(3, 4), 0);
        x.setSegment(2, 0, 160, 0, 0);
        x.setSegment(2, 9, 160, 0, 0);
        x.decode();
        Check.due("the first: (28 * 160 + 20) / 32", x.luma(2, 0), 140);
        Check.due("the last: 28 * 160 / 32", x.luma(2, 9), 140);
        x.setLine(2, 0, 40, 2, 0);
        x.decode();
        Check.due("the first: (28 * 160 - 40) / 32 is 138.75", x.luma(2, 0), 138);
        x.setLine(2, 0, 40, 0, 0);
        x.decode();
        Check.due("the first: (28 * 160 + 40) / 32 is 141.25", x.luma(2, 0), 141);
    }

    /** "samples with other numbers are 0": the start 20 lets the last segment be read from 108 to 115, and 117. */
    private static void samplesBeyondTheLineAreZero() {
        // M is 2 * z, the sums of x(k - 2) and x(k + 2) are z and 0: (4 * M - (2 * M - z)) / 32 is 5 * z / 32.
        beyondTheLine(9, 1);
        beyondTheLine(7, 1);
        beyondTheLine(6, 0);
    }

    private static void beyondTheLine(int z, int luma) {
        CompositeDecoder x = new CompositeDecoder();
        x.set(2, 0);
        x.setStandard(1);
        x.miss(0, true);
        x.miss(1, true);
        x.setLine(2, -2, 40, 1, z);
        x.miss(2, true);
        x.fill(2, 0, 60, -60);
        x.decode();
        Check.due("the start", x.line(2, 1), 20);
        int[] noise = {1, -2, 0, 2, -1, 1};
        for (int i = 0; i < 6; i++) {
            Check.due("sample " + (106 + i), x.sample(2, 106 + i), z * noise[i]);
        }
        Check.due("the last luma with a noise of " + z, x.luma(2, 9), luma);
        Check.due("its way", x.combed(2, 9), NOTCH);
    }

    /** "All divisions of whole numbers round down": lumas of (Y + that of the line above) / 2, and below 0. */
    private static void lumasAreRoundedDown() {
        CompositeDecoder x = plain(100, 0, 0);
        x.set(2, 1);
        x.fill(3, 103, 0, 0);
        x.decode();
        Check.due("101.5", x.luma(3, 4), 101);
        Check.due("101.5", x.luma(4, 4), 101);
        x.fill(3, 97, 0, 0);
        x.decode();
        Check.due("98.5", x.luma(3, 4), 98);
        // With a noise of 1 alone, the sums of the line 3's segments 0 to 4 are 1, -1, 2, 0 and -2.
        x = new CompositeDecoder();
        x.set(2, 1);
        x.setLine(3, 0, 20, 0, 1);
        x.decode();
        int[] lumas = {0, -1, 0, 0, -1};
        for (int i = 0; i < 5; i++) {
            Check.due("a sixteenth of a sum, in the line itself", x.luma(3, i), lumas[i]);
            Check.due("a sixteenth of a sum, below it", x.luma(4, i), lumas[i]);
            Check.due("nothing above it", x.luma(2, i), 0);
        }
    }

    /**
     * "All divisions of whole numbers round down": from one 32nd below a whole luma. With the notch, 32 times the luma
     * is (in the line 0) 28 * Y + twice the Y of both neighbors, + U of the right one, - U of the left one.
     */
    private static void aThirtySecondBelowAWholeLumaIsLess() {
        notchBeside(1, 0, 99);
        notchBeside(32, 0, 99);
        notchBeside(33, 0, 98);
        notchBeside(0, 31, 100);
        notchBeside(0, 32, 101);
        // With both, it is twice the sum of the line and those of the lines above (4 * 8, and noise) and below (0).
        CompositeDecoder x = new CompositeDecoder();
        x.set(2, 2);
        x.setLine(3, 0, 20, 0, 1);
        x.fill(3, 4, 0, 0);
        x.decode();
        Check.due("33 / 32", x.luma(4, 0), 1);
        Check.due("31 / 32", x.luma(4, 1), 0);
        Check.due("32 / 32", x.luma(4, 3), 1);
    }

    private static void notchBeside(int left, int right, int want) {
        CompositeDecoder x = plain(100, 0, 0);
        x.set(2, 0);
        x.setSegment(0, 4, 100, left, 0);
        x.setSegment(0, 6, 100, right, 0);
        x.decode();
        Check.due("luma beside U " + left + " and " + right, x.luma(0, 5), want);
    }

    /** "u(k) and w(k) are their samples at the same distance from their own starts". */
    private static void linesAreComparedFromTheirOwnStarts() {
        for (int comb = 1; comb < 4; comb++) {
            CompositeDecoder x = new CompositeDecoder();
            x.set(2, comb);
            for (int n = 0; n < 8; n++) {
                x.setLine(n, n % 2 == 0 ? 4 : -4, 20, 0, 0);
                for (int i = 0; i < 10; i++) {
                    x.setSegment(n, i, i % 2 == 0 ? 200 : 0, -60, 60);
                }
            }
            Check.due("locked", x.decode(), 0);
            for (int n = 0; n < 8; n++) {
                for (int i = 0; i < 10; i++) {
                    Check.due("luma", x.luma(n, i), i % 2 == 0 ? 200 : 0);
                    Check.dueFloat("u", x.u(n, i), -60f);
                    Check.dueFloat("v", x.v(n, i), 60f);
                }
            }
        }
    }

    /** "if color is off at the line (behind its burst) .. the raw colors are 0". */
    private static void colorsAreOffFromTheSecondBadBurstOn() {
        CompositeDecoder x = plain(100, 20, -30);
        for (int n = 2; n < 5; n++) {
            x.setLine(n, 0, 0, 0, 0);
        }
        x.decode();
        float[] us = {20, 20, 20, 0, 0, 0, 20, 20};
        float[] vs = {-30, -30, -30, 0, 0, 0, -30, -30};
        for (int n = 0; n < 8; n++) {
            for (int i = 0; i < 10; i += 9) {
                Check.dueFloat("u(" + n + ", " + i + ")", x.u(n, i), us[n]);
                Check.dueFloat("v(" + n + ", " + i + ")", x.v(n, i), vs[n]);
                Check.due("luma(" + n + ", " + i + ")", x.luma(n, i), 100);
            }
            Check.dueFloat("the reference stays, line " + n, x.reference(n, 0), 80f);
        }
    }

    /** Color is on at the line 0, and the reference is 0 there as its burst is bad. */
    private static void noColorWithoutAReference() {
        CompositeDecoder x = plain(100, 20, -30);
        x.setLine(0, 0, 0, 0, 0);
        x.decode();
        Check.due("color is on", x.line(0, 6), 1);
        Check.dueFloat("no u", x.u(0, 0), 0f);
        Check.dueFloat("no v", x.v(0, 9), 0f);
        Check.due("no thousandths", x.thousandths(0, 0, 0), 0);
        Check.dueFloat("u of the next line", x.u(1, 0), 20f);
    }

    /** "or g is 0": 40, and then a quarter of the way to -120. One of the two numbers alone being 0 is not enough. */
    private static void aReferenceOfZeroGivesNoColor() {
        CompositeDecoder x = plain(100, 20, -30);
        x.setLine(0, 0, 10, 0, 0);
        x.setLine(1, 0, 30, 2, 0);
        x.decode();
        Check.due("the burst is good", x.line(1, 5), 1);
        Check.due("color is on", x.line(1, 6), 1);
        Check.dueFloat("rp", x.reference(1, 0), 0f);
        Check.dueFloat("rq", x.reference(1, 1), 0f);
        for (int i = 0; i < 10; i++) {
            Check.dueFloat("u", x.u(1, i), 0f);
            Check.dueFloat("v", x.v(1, i), 0f);
        }
        x = plain(100, 20, -30);
        for (int n = 0; n < 8; n++) {
            x.setLine(n, 0, 20, 1, 0);
        }
        x.decode();
        Check.dueFloat("rp is 0", x.reference(1, 0), 0f);
        Check.dueFloat("rq is not", x.reference(1, 1), 80f);
        Check.dueFloat("u by rq alone", x.u(1, 5), 20f);
        Check.dueFloat("v by rq alone", x.v(1, 5), -30f);
    }

    /** The colors -60 and 60, the luma 0 and 200, come back whole. */
    private static void theLargestColorsOfThePicture() {
        for (int comb = 1; comb < 4; comb++) {
            for (int sign = -1; sign < 2; sign += 2) {
                CompositeDecoder x = plain(sign < 0 ? 0 : 200, 60 * sign, -60 * sign);
                x.set(2, comb);
                x.decode();
                for (int n = 0; n < 8; n++) {
                    Check.dueFloat("u", x.u(n, 0), 60f * sign);
                    Check.dueFloat("v", x.v(n, 9), -60f * sign);
                    Check.due("thousandths", x.thousandths(n, 9, 1), -60000 * sign);
                }
                Check.due("wrong lumas", x.count(5), 0);
            }
        }
    }

    /** "v becomes 0 - v with the standard 1 if n is odd"; I and K of a notched plain segment are 16 * U and 16 * z * V. */
    private static void oddLinesOfTheTurnedStandard() {
        CompositeDecoder x = plain(100, 0, 32);
        // Bursts of a steady signal with the standard 1 taken: rp is 80, rq is 0; raw v is V, or -V in the odd lines.
        x.set(3, 1);
        x.decode();
        Check.dueFloat("v of the line 0", x.v(0, 4), 32f);
        for (int n = 1; n < 8; n++) {
            Check.dueFloat("32 and -32", x.v(n, 4), 0f);
            Check.dueFloat("u", x.u(n, 4), 0f);
        }
        for (int n = 1; n < 8; n += 2) {
            x.fill(n, 100, 0, -32);
        }
        x.decode();
        for (int n = 0; n < 8; n++) {
            Check.dueFloat("32 and 32", x.v(n, 4), 32f);
        }
        x.set(3, 0);
        x.set(2, 0);
        x.decode();
        for (int n = 0; n < 8; n++) {
            Check.dueFloat("as they are with the standard 0", x.v(n, 4), n % 2 == 0 ? 32f : -32f);
        }
    }

    /** "the raw one with the standard 0, and for the line 0; otherwise (u + u') * 0.5", u' being raw, too. */
    private static void theLineZeroIsNotAveraged() {
        CompositeDecoder x = new CompositeDecoder();
        x.set(3, 1);
        int[] us = {40, 0, 16, -24, 60, -60, 8, 0};
        for (int n = 0; n < 8; n++) {
            x.fill(n, 100, us[n], 0);
        }
        x.decode();
        float[] halves = {40, 20, 8, -4, 18, 0, -26, 4};
        for (int n = 0; n < 8; n++) {
            for (int i = 1; i < 9; i++) {
                Check.dueFloat("u(" + n + ", " + i + ")", x.u(n, i), halves[n]);
            }
        }
        x.set(3, 0);
        x.set(2, 0);
        x.decode();
        for (int n = 0; n < 8; n++) {
            Check.dueFloat("the raw one with the standard 0", x.u(n, 4), us[n]);
        }
    }

    /** The raw colors of a line where color is off are 0, and half of that goes to the line below. */
    private static void aLineBelowColorsThatAreOff() {
        CompositeDecoder x = plain(100, 32, 0);
        x.set(3, 1);
        x.setLine(3, 0, 0, 0, 0);
        x.setLine(4, 0, 0, 0, 0);
        x.decode();
        // The line 5 halves P with the line 4 without a burst: rp is 80 + (40 - 80) / 4 = 70 there, 72.5 at 6.
        Check.dueFloat("on at the first bad burst", x.u(3, 5), 32f);
        Check.dueFloat("half of the line 3", x.u(4, 5), 16f);
        Check.dueFloat("off at the lines 4 and 5", x.u(5, 5), 0f);
        Check.dueFloat("the reference at 6", x.reference(6, 0), 72.5f);
        float raw = 32f * 72.5f * 80f / (72.5f * 72.5f);
        Check.dueFloat("on at 6, off above it", x.u(6, 5), (raw + 0f) * 0.5f);
    }

    /**
     * "(float operations from left to right, parentheses first)": numbers for which any other order, and doubles, too,
     * would answer others.
     */
    private static void floatsFromLeftToRight() {
        CompositeDecoder x = new CompositeDecoder();
        x.set(0, 1);
        x.set(2, 0);
        x.set(3, 0);
        int[] amplitudes = {23, 21, 32, 9, 13, 25, 27, 23};
        int[] phases = {0, 3, 3, 3, 3, 2, 1, 0};
        for (int n = 0; n < 8; n++) {
            x.setLine(n, 0, amplitudes[n], phases[n], 0);
        }
        x.fill(7, 100, -46, 41);
        x.decode();
        float rp = 21.218018f;
        float rq = 0.5866699f;
        Check.dueFloat("rp", x.reference(7, 0), rp);
        Check.dueFloat("rq", x.reference(7, 1), rq);
        float g = rp * rp;
        g = g + rq * rq;
        float u = -46f * rp;
        u = u + 41f * rq;
        u = u * 80f;
        u = u / g;
        float v = 41f * rp;
        v = v - -46f * rq;
        v = v * 80f;
        v = v / g;
        Check.dueFloat("u", x.u(7, 4), u);
        Check.dueFloat("v", x.v(7, 4), v);
        Check.dueFloat("u", x.u(7, 4), -169.03406f);
        Check.dueFloat("v", x.v(7, 4), 159.25934f);
    }

    /** "times 1000 (a float operation)": -45.6 as a float lies a little nearer to 0, and its product does not. */
    private static void thousandthsAreFloats() {
        for (int sign = -1; sign < 2; sign += 2) {
            CompositeDecoder x = plain(100, 57 * sign, 21 * sign);
            for (int n = 0; n < 8; n++) {
                x.setLine(n, 0, 25, 0, 0);
            }
            x.decode();
            Check.dueFloat("u", x.u(0, 4), 45.6f * sign);
            Check.due("u in thousandths", x.thousandths(0, 4, 0), 45600 * sign);
            Check.due("v in thousandths", x.thousandths(0, 4, 1), 16800 * sign);
        }
    }

    /** "cut off to a whole number (towards zero)". */
    private static void thousandthsAreCutOffTowardsZero() {
        for (int sign = -1; sign < 2; sign += 2) {
            CompositeDecoder x = plain(100, 20 * sign, -10 * sign);
            x.set(0, 1);
            for (int n = 0; n < 8; n++) {
                x.setLine(n, 0, 3, 0, 0);
            }
            x.decode();
            // A burst of 3 for one of 20: 20 * 20 / 3 and 10 * 20 / 3.
            Check.due("133.333..", x.thousandths(0, 0, 0), 133333 * sign);
            Check.due("66.666..", x.thousandths(7, 9, 1), -66666 * sign);
        }
        CompositeDecoder x = plain(100, 0, 0);
        x.decode();
        Check.due("0", x.thousandths(3, 3, 0), 0);
        Check.due("0", x.thousandths(3, 3, 1), 0);
    }

    /**
     * "beyond the range of an int the nearest end of it": bursts of 2, 1, -1, 2, 1, -1 and -2 lead the reference to
     * 1/1024 at the line 6, whose phase 2 turns its colors around: -U * 80 * 1024 * 1000 thousandths.
     */
    private static void thousandthsBeyondAnInt() {
        CompositeDecoder x = new CompositeDecoder();
        int[] bursts = {2, 1, -1, 2, 1, -1, -2, 2};
        for (int n = 0; n < 8; n++) {
            x.setLine(n, 0, Math.abs(bursts[n]), bursts[n] < 0 ? 2 : 0, 0);
        }
        x.set(0, 1);
        x.set(2, 0);
        large(x, 26, -2129920000);
        large(x, -26, 2129920000);
        large(x, 27, Integer.MIN_VALUE);
        large(x, -27, Integer.MAX_VALUE);
        large(x, 60, Integer.MIN_VALUE);
        large(x, -60, Integer.MAX_VALUE);
    }

    private static void large(CompositeDecoder x, int color, int want) {
        x.fill(6, 100, color, -color);
        x.decode();
        Check.dueFloat("rp", x.reference(6, 0), 1f / 1024f);
        Check.dueFloat("u", x.u(6, 4), color * -81920f);
        Check.dueFloat("v", x.v(6, 4), color * 81920f);
        Check.due("u in thousandths", x.thousandths(6, 4, 0), want);
        int other = want == Integer.MIN_VALUE ? Integer.MAX_VALUE : want == Integer.MAX_VALUE ? Integer.MIN_VALUE : -want;
        Check.due("v in thousandths", x.thousandths(6, 4, 1), other);
    }

    /** "NONE before the first one"; "Methods that return a float return 0 .. before the first decoding". */
    private static void beforeTheFirstDecoding() {
        CompositeDecoder x = plain(100, 20, -30);
        for (int n = 0; n < 8; n++) {
            for (int i = 0; i < 10; i++) {
                Check.due("luma", x.luma(n, i), NONE);
                Check.due("combed", x.combed(n, i), NONE);
                Check.due("thousandths", x.thousandths(n, i, i % 2), NONE);
                Check.dueFloat("u", x.u(n, i), 0f);
                Check.dueFloat("v", x.v(n, i), 0f);
            }
        }
        x.decode();
        Check.due("luma behind it", x.luma(0, 0), 100);
        Check.due("combed behind it", x.combed(0, 0), BELOW);
        Check.due("thousandths behind it", x.thousandths(0, 0, 0), 20000);
    }

    /** "in the latest decoding": whatever becomes of the picture behind it. */
    private static void theDecodingStaysAsItWas() {
        CompositeDecoder x = plain(100, 20, -30);
        x.decode();
        x.fill(3, 0, 0, 0);
        x.setLine(4, 4, 0, 3, 9);
        x.setStandard(1);
        for (int n = 2; n < 6; n++) {
            Check.due("luma", x.luma(n, 5), 100);
            Check.due("combed", x.combed(n, 5), BOTH);
            Check.dueFloat("u", x.u(n, 5), 20f);
            Check.dueFloat("v", x.v(n, 5), -30f);
            Check.dueFloat("reference", x.reference(n, 0), 80f);
        }
        x.setStandard(0);
        x.decode();
        Check.due("luma then", x.luma(3, 5), 0);
        Check.due("combed then", x.combed(3, 5), NOTCH);
    }

    private static CompositeDecoder plain(int y, int u, int v) {
        CompositeDecoder x = new CompositeDecoder();
        for (int n = 0; n < 8; n++) {
            x.fill(n, y, u, v);
        }
        return x;
    }

    /** How the first five segments of a line were combed. */
    private static void combed(CompositeDecoder x, int line, int... want) {
        for (int i = 0; i < 5; i++) {
            Check.due("combed(" + line + ", " + i + ")", x.combed(line, i), want[i]);
        }
    }
}
