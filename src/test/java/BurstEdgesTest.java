/** Promises 11, 13 and 19, and the terms Settings, Bursts and Reference: each sentence that names an edge. */
public final class BurstEdgesTest {
    private static final int START = 1;
    private static final int P = 3;
    private static final int Q = 4;
    private static final int GOOD = 5;
    private static final int COLOR = 6;

    public static void main(String[] args) {
        settingsAtFirst();
        settingsTellThePreviousValue();
        whatWasDecodedStays();
        sumsAtTheEdgesOfTheBurst();
        sumsOfEachPhase();
        aBurstIsGoodFromFourThresholdsOn();
        theLeastAndTheGreatestThreshold();
        colorGoesOffAndOn();
        colorIsOnAtTheBeginningOfEachDecoding();
        pairsOfSigns();
        aPairNeedsTheThresholdTwice();
        aPairNeedsGoodBursts();
        theStandardTaken();
        theReferenceIsZeroAtTheBeginning();
        theFirstLineIsTakenWhole();
        otherLinesByAQuarter();
        badBurstsLeaveTheReference();
        theTurnedReference();
        halvesOfTheTurnedReference();
        theReferenceBeginsAnew();
        Check.finish();
    }

    /** "0 the threshold (8), 1 the limit (10), 2 the comb (3), 3 the standard taken (2)". */
    private static void settingsAtFirst() {
        int[] first = {8, 10, 3, 2};
        CompositeDecoder x = new CompositeDecoder();
        for (int what = 0; what < 4; what++) {
            Check.due("count of the setting " + what, x.count(15 + what), first[what]);
            Check.due("set tells the first value of " + what, x.set(what, first[what]), first[what]);
        }
    }

    /** "Returns the previous value": of that setting alone, at both ends and one inside of them. */
    private static void settingsTellThePreviousValue() {
        int[][] values = {{1, 40, 2, 39}, {0, 100, 1, 99}, {0, 3, 1, 2}, {0, 2, 1, 0}};
        int[] now = {8, 10, 3, 2};
        CompositeDecoder x = new CompositeDecoder();
        for (int step = 0; step < 4; step++) {
            for (int what = 0; what < 4; what++) {
                Check.due("setting " + what, x.set(what, values[what][step]), now[what]);
                now[what] = values[what][step];
                for (int other = 0; other < 4; other++) {
                    Check.due("the setting " + other + " then", x.count(15 + other), now[other]);
                }
            }
        }
    }

    /** "Sets a setting of the decoder. What was decoded stays." */
    private static void whatWasDecodedStays() {
        CompositeDecoder x = new CompositeDecoder();
        x.setStandard(1);
        x.fill(3, 100, 20, -30);
        x.decode();
        float u = x.u(3, 3);
        int luma = x.luma(3, 3);
        x.set(0, 40);
        x.set(1, 100);
        x.set(2, 1);
        x.set(3, 0);
        Check.due("good", x.line(3, GOOD), 1);
        Check.due("combed", x.combed(3, 3), 0);
        Check.due("luma", x.luma(3, 3), luma);
        Check.dueFloat("u", x.u(3, 3), u);
        Check.dueFloat("the reference", x.reference(1, 1), -60f);
        Check.due("guessed", x.count(1), 1);
        Check.due("by the notch", x.count(9), 80);
        x.decode();
        Check.due("combed by the new ones", x.combed(3, 3), 1);
        Check.dueFloat("the reference by the new ones", x.reference(1, 1), -40f);
    }

    /** "over the samples x with the numbers k = s + 8 to s + 15". */
    private static void sumsAtTheEdgesOfTheBurst() {
        // Locked at 36, the start 9 lies one sample ahead of the line's own 10: s + 8 is the pulse's last sample.
        CompositeDecoder x = new CompositeDecoder();
        x.setLine(2, 2, 20, 0, 0);
        x.fill(2, 100, 7, 9);
        x.decode();
        Check.due("the start", x.line(2, START), 9);
        Check.due("P with -40 at t = 1", x.line(2, P), -40 - 3 * 20);
        Check.due("Q", x.line(2, Q), 0);
        // Locked at 28, the start 7 lies one sample behind its own 6: s + 15 is the segment's first sample, at t = 2.
        x.setLine(2, -2, 20, 0, 0);
        x.decode();
        Check.due("the start", x.line(2, START), 7);
        Check.due("P", x.line(2, P), -80);
        Check.due("Q with 100 - 9 at t = 2", x.line(2, Q), -91);
    }

    /** P and Q with the phases 0 to 3 and both standards, on an even and on an odd line. */
    private static void sumsOfEachPhase() {
        int[] steadyP = {-80, 0, 80, 0};
        int[] steadyQ = {0, -80, 0, 80};
        int[][] turnedP = {{-80, -80, 80, 80}, {-80, 80, 80, -80}};
        int[][] turnedQ = {{80, -80, -80, 80}, {-80, -80, 80, 80}};
        for (int phase = 0; phase < 4; phase++) {
            CompositeDecoder x = new CompositeDecoder();
            for (int n = 0; n < 8; n++) {
                x.setLine(n, 0, 20, phase, 0);
            }
            x.decode();
            for (int n = 0; n < 8; n++) {
                Check.due("steady P, phase " + phase, x.line(n, P), steadyP[phase]);
                Check.due("steady Q, phase " + phase, x.line(n, Q), steadyQ[phase]);
            }
            x.setStandard(1);
            x.decode();
            for (int n = 0; n < 8; n++) {
                Check.due("turned P, phase " + phase, x.line(n, P), turnedP[n % 2][phase]);
                Check.due("turned Q, phase " + phase, x.line(n, Q), turnedQ[n % 2][phase]);
            }
        }
    }

    /** "good if |P| + |Q| is at least 4 * threshold": exactly, and one below it, both sums with both signs. */
    private static void aBurstIsGoodFromFourThresholdsOn() {
        // In the line 0, a noise z gives P = 2 * z - 4 * A and Q = -3 * z; the phase 2 turns the burst's -4 * A around.
        goodSums(1, 2, 0, -6, -3, 2, 1);
        goodSums(1, 2, 0, -6, -3, 3, 0);
        goodSums(3, 1, 0, 2, -9, 2, 1);
        goodSums(3, 1, 0, 2, -9, 3, 0);
        goodSums(4, 2, 0, 0, -12, 3, 1);
        goodSums(4, 2, 0, 0, -12, 4, 0);
        goodSums(1, 1, 2, 6, -3, 2, 1);
        goodSums(1, 1, 2, 6, -3, 3, 0);
        goodSums(0, 40, 0, -160, 0, 40, 1);
        goodSums(0, 40, 2, 160, 0, 40, 1);
        goodSums(0, 39, 2, 156, 0, 40, 0);
        goodSums(0, 40, 1, 0, -160, 40, 1);
        goodSums(0, 39, 1, 0, -156, 40, 0);
        goodSums(0, 39, 3, 0, 156, 39, 1);
        // Sums that are no multiples of 4: 11 is one below 12, 13 is one above it.
        goodSums(1, 3, 0, -10, -3, 3, 1);
        goodSums(1, 3, 0, -10, -3, 4, 0);
        goodSums(5, 3, 0, -2, -15, 4, 1);
        goodSums(5, 3, 0, -2, -15, 5, 0);
    }

    private static void theLeastAndTheGreatestThreshold() {
        goodSums(0, 0, 0, 0, 0, 1, 0);
        goodSums(0, 1, 0, -4, 0, 1, 1);
        goodSums(0, 1, 0, -4, 0, 2, 0);
        CompositeDecoder x = new CompositeDecoder();
        x.setStandard(1);
        x.set(0, 40);
        x.decode();
        Check.due("80 and 80 are 160", x.line(0, GOOD), 1);
        x.setLine(0, 0, 19, 0, 0);
        x.decode();
        Check.due("76 and 76 are not", x.line(0, GOOD), 0);
    }

    /** "it goes off with the second one of two bad bursts, one directly behind the other, and on again ..". */
    private static void colorGoesOffAndOn() {
        colors("11111111", "11111111");
        colors("01111111", "11111111");
        colors("01010101", "11111111");
        colors("10101010", "11111111");
        colors("11111110", "11111111");
        colors("00111111", "10011111");
        colors("11111100", "11111110");
        colors("00000000", "10000000");
        colors("00000001", "10000000");
        colors("00000011", "10000001");
        colors("00101011", "10000001");
        colors("10010011", "11000001");
        colors("11011001", "11111100");
        colors("10011001", "11001100");
        colors("00110011", "10011001");
        colors("10001000", "11000000");
    }

    private static void colors(String good, String on) {
        CompositeDecoder x = new CompositeDecoder();
        send(x, good.replace('0', '.').replace('1', '0'));
        x.decode();
        int lines = 0;
        for (int n = 0; n < 8; n++) {
            Check.due("good, line " + n + " of " + good, x.line(n, GOOD), good.charAt(n) - '0');
            Check.due("color, line " + n + " of " + good, x.line(n, COLOR), on.charAt(n) - '0');
            lines += on.charAt(n) - '0';
        }
        Check.due("lines with color of " + good, x.count(4), lines);
    }

    /** "Color is on at the beginning": off at the end of the decoding before, and its last bad burst, do not count. */
    private static void colorIsOnAtTheBeginningOfEachDecoding() {
        CompositeDecoder x = new CompositeDecoder();
        send(x, ".00000..");
        x.decode();
        Check.due("off at the end", x.line(7, COLOR), 0);
        x.decode();
        Check.due("on at the begin, though the burst is bad", x.line(0, COLOR), 1);
        Check.due("lines with color", x.count(4), 7);
    }

    /** "turned if the product of both Q is less than 0", "1 if there are more turned than steady pairs, otherwise 0". */
    private static void pairsOfSigns() {
        pairs("+-+-+-+-", 7, 0, 1);
        pairs("-+-+-+-+", 7, 0, 1);
        pairs("++++++++", 0, 7, 0);
        pairs("--------", 0, 7, 0);
        pairs("+-+-++++", 4, 3, 1);
        pairs("+-+-----", 3, 4, 0);
        pairs(".+-+----", 3, 3, 0);
        pairs("+-......", 1, 0, 1);
        pairs("......-+", 1, 0, 1);
        pairs("++......", 0, 1, 0);
        pairs("........", 0, 0, 0);
        pairs("+.-.+.-.", 0, 0, 0);
        pairs("++.+-...", 1, 1, 0);
        // A product of 0 is not less than 0.
        pairs("0+0-0+0-", 0, 7, 0);
        pairs("00......", 0, 1, 0);
        pairs("+-0.....", 1, 1, 0);
    }

    /** Behind the second decoding, too: the pairs of the first one are not among its own. */
    private static void pairs(String signs, int turned, int steady, int guessed) {
        CompositeDecoder x = new CompositeDecoder();
        send(x, signs);
        x.decode();
        x.decode();
        Check.due("turned pairs of " + signs, x.count(2), turned);
        Check.due("steady pairs of " + signs, x.count(3), steady);
        Check.due("guessed of " + signs, x.count(1), guessed);
    }

    /** "|Q| is at least the threshold in both": noises give Q = -3 * z in the line 0 and 3 * z in the line 1. */
    private static void aPairNeedsTheThresholdTwice() {
        for (int z = 1; z < 10; z++) {
            for (int which = 0; which < 3; which++) {
                int above = which == 1 ? 9 : z;
                int below = which == 2 ? 9 : z;
                aPair(above, below, Math.max(1, 3 * z - 1), 1);
                aPair(above, below, 3 * z, 1);
                aPair(above, below, 3 * z + 1, 0);
            }
        }
    }

    private static void aPair(int above, int below, int threshold, int turned) {
        CompositeDecoder x = new CompositeDecoder();
        send(x, "........");
        x.setLine(0, 0, 40, 0, above);
        x.setLine(1, 0, 40, 0, below);
        x.set(0, threshold);
        x.decode();
        String what = "noises " + above + " and " + below + ", threshold " + threshold;
        Check.due(what + ": Q of the line 0", x.line(0, Q), -3 * above);
        Check.due(what + ": Q of the line 1", x.line(1, Q), 3 * below);
        Check.due(what + ": turned", x.count(2), turned);
        Check.due(what + ": steady", x.count(3), 1 - turned);
    }

    /** "A pair of lines n - 1 and n with good bursts": a bad one takes part in none. */
    private static void aPairNeedsGoodBursts() {
        for (int bad = 0; bad < 8; bad++) {
            StringBuilder signs = new StringBuilder("+-+-+-+-");
            signs.setCharAt(bad, '.');
            pairs(signs.toString(), bad == 0 || bad == 7 ? 6 : 5, 0, 1);
        }
    }

    /** "3 the standard taken (0, 1, or 2 for the guessed one)", whatever the signal's is. */
    private static void theStandardTaken() {
        for (int signal = 0; signal < 2; signal++) {
            for (int taken = 0; taken < 3; taken++) {
                CompositeDecoder x = new CompositeDecoder();
                x.setStandard(signal);
                x.set(3, taken);
                x.decode();
                int works = taken == 2 ? signal : taken;
                String what = "signal " + signal + ", taken " + taken;
                Check.due(what + ": guessed", x.count(1), signal);
                Check.due(what + ": by the notch", x.count(9), works == 1 ? 80 : 0);
                float wq = signal == 0 ? 0f : works == 1 ? -60f : -40f;
                Check.dueFloat(what + ": rq", x.reference(1, 1), wq);
            }
        }
        // A turned signal whose bursts are all bad is guessed to be steady.
        CompositeDecoder x = new CompositeDecoder();
        send(x, "........");
        x.setStandard(1);
        x.decode();
        Check.due("guessed without bursts", x.count(1), 0);
        Check.due("by the notch", x.count(9), 0);
    }

    /** "are floats, 0 at the beginning", up to the first good burst. */
    private static void theReferenceIsZeroAtTheBeginning() {
        CompositeDecoder x = new CompositeDecoder();
        references(x, "before the first decoding", 0, 0, 0, 0, 0, 0, 0, 0);
        send(x, "........");
        x.decode();
        references(x, "no good burst", 0, 0, 0, 0, 0, 0, 0, 0);
        send(x, ".......0");
        x.decode();
        references(x, "one at the end", 0, 0, 0, 0, 0, 0, 0, 80);
    }

    /** "For the first such line, rp and rq become m and w". */
    private static void theFirstLineIsTakenWhole() {
        for (int first = 0; first < 8; first++) {
            CompositeDecoder x = new CompositeDecoder();
            for (int n = 0; n < 8; n++) {
                x.setLine(n, 0, n == first ? 40 : 0, 1, 0);
            }
            x.decode();
            for (int n = 0; n < 8; n++) {
                Check.dueFloat("rp of " + n, x.reference(n, 0), 0f);
                Check.dueFloat("rq of " + n, x.reference(n, 1), n < first ? 0f : 160f);
            }
        }
    }

    /** "rp becomes rp + (m - rp) * 0.25, and rq becomes rq + (w - rq) * 0.25". */
    private static void otherLinesByAQuarter() {
        CompositeDecoder x = new CompositeDecoder();
        x.setLine(0, 0, 40, 0, 0);
        x.setLine(1, 0, 20, 1, 0);
        x.setLine(2, 0, 40, 2, 0);
        x.setLine(3, 0, 40, 3, 0);
        send(x, 4, "....");
        x.decode();
        references(x, "m", 160, 120, 50, 37.5f, 37.5f, 37.5f, 37.5f, 37.5f);
        float[] rq = {0, 20, 15, -28.75f, -28.75f, -28.75f, -28.75f, -28.75f};
        for (int n = 0; n < 8; n++) {
            Check.dueFloat("rq of " + n, x.reference(n, 1), rq[n]);
        }
        // 40 and then -120: a reference of exactly 0 is not a first one again.
        x = new CompositeDecoder();
        x.setLine(0, 0, 10, 0, 0);
        x.setLine(1, 0, 30, 2, 0);
        x.decode();
        references(x, "back at 0", 40, 0, 20, 35, 46.25f, 54.6875f, 61.015625f, 65.76171875f);
    }

    /** "For each line with a good burst": "A line has the reference as it is behind it." */
    private static void badBurstsLeaveTheReference() {
        CompositeDecoder x = new CompositeDecoder();
        x.setLine(0, 0, 40, 0, 0);
        x.setLine(1, 0, 7, 2, 0);
        x.setLine(3, 0, 8, 0, 0);
        x.setLine(7, 0, 0, 0, 0);
        x.decode();
        references(x, "bad ones stay", 160, 160, 140, 113, 104.75f, 98.5625f, 93.921875f, 93.921875f);
    }

    /** "with the standard 1, the same for the line 0, and for others -(P + P') / 2, .. whatever its burst is". */
    private static void theTurnedReference() {
        CompositeDecoder x = new CompositeDecoder();
        x.set(3, 1);
        x.setLine(0, 0, 4, 0, 0);
        x.setLine(1, 0, 40, 0, 0);
        x.setLine(2, 0, 0, 0, 0);
        x.setLine(3, 0, 40, 0, 0);
        send(x, 4, "....");
        x.decode();
        // The bad lines 0 and 2 count as the lines before: (16 + 160) / 2 = 88, and then (0 + 160) / 2 = 80.
        references(x, "P'", 0, 88, 88, 86, 86, 86, 86, 86);
        x.setLine(0, 0, 8, 0, 0);
        x.decode();
        references(x, "the line 0 as it is", 32, 48, 48, 56, 56, 56, 56, 56);
        x.set(3, 0);
        x.decode();
        references(x, "the standard 0", 32, 64, 64, 88, 88, 88, 88, 88);
    }

    /** "the sums are whole numbers, which become floats before they are divided, exactly". */
    private static void halvesOfTheTurnedReference() {
        CompositeDecoder x = new CompositeDecoder();
        x.set(3, 1);
        send(x, "........");
        x.setLine(1, 0, 40, 0, 1);
        x.decode();
        // The noise makes P = 3 - 160 and Q = 3 of the line 1; the line 0 has neither.
        Check.due("P", x.line(1, P), -157);
        Check.due("Q", x.line(1, Q), 3);
        Check.dueFloat("rp", x.reference(1, 0), 78.5f);
        Check.dueFloat("rq", x.reference(1, 1), -1.5f);
    }

    /** With each decoding: neither the numbers of the one before, nor that there was a first line, are left. */
    private static void theReferenceBeginsAnew() {
        CompositeDecoder x = new CompositeDecoder();
        x.decode();
        references(x, "the first decoding", 80, 80, 80, 80, 80, 80, 80, 80);
        x.setLine(0, 0, 0, 0, 0);
        x.setLine(1, 0, 40, 0, 0);
        x.decode();
        references(x, "the second one", 0, 160, 140, 125, 113.75f, 105.3125f, 98.984375f, 94.23828125f);
    }

    private static void references(CompositeDecoder x, String what, float... rp) {
        for (int n = 0; n < 8; n++) {
            Check.dueFloat(what + ": rp of " + n, x.reference(n, 0), rp[n]);
        }
    }

    /** Bursts told by signs: '+' and '-' is that of Q, '0' is a good burst whose Q is 0, '.' is no burst. */
    private static void send(CompositeDecoder x, String signs) {
        send(x, 0, signs);
    }

    private static void send(CompositeDecoder x, int first, String signs) {
        for (int i = 0; i < signs.length(); i++) {
            char sign = signs.charAt(i);
            int phase = sign == '+' ? 3 : sign == '-' ? 1 : 0;
            x.setLine(first + i, 0, sign == '.' ? 0 : 20, phase, 0);
        }
    }

    private static void goodSums(int noise, int amplitude, int phase, int p, int q, int threshold, int good) {
        CompositeDecoder x = new CompositeDecoder();
        x.setLine(0, 0, amplitude, phase, noise);
        x.set(0, threshold);
        x.decode();
        String what = "noise " + noise + ", amplitude " + amplitude + ", phase " + phase + ", threshold " + threshold;
        Check.due(what + ": P", x.line(0, P), p);
        Check.due(what + ": Q", x.line(0, Q), q);
        Check.due(what + ": good", x.line(0, GOOD), good);
    }
}
