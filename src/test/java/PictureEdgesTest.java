/** Promises 1 to 6 and 10, and the terms Picture and Samples: each sentence that names an edge. */
public final class PictureEdgesTest {
    private static final int UNKNOWN = CompositeDecoder.UNKNOWN;
    private static final int BAD_VALUE = CompositeDecoder.BAD_VALUE;
    private static final int[] SINE = {0, 1, 0, -1};
    private static final int[] COSINE = {1, 0, -1, 0};

    public static void main(String[] args) {
        allSegmentsAreZeroAtFirst();
        allLinesAreAsToldAtFirst();
        theStandardIsSteadyAtFirst();
        segmentsAreNumberedFromZero();
        aSegmentTellsItsPreviousY();
        fillCountsWhatBecomesAnother();
        fillReachesOneLine();
        setLineTellsThePreviousJitter();
        setLineBringsThePulseBack();
        missTellsWhetherItWasMissing();
        standardsTellThePreviousOne();
        samplesAtTheEdgesOfTheirParts();
        thePulseCanBeMissing();
        burstsFromNoneToTheLargest();
        standardsAndOddLines();
        carriersAtEachPhase();
        noiseAtBothEnds();
        theLargestAndTheSmallestSample();
        samplesTellThePictureOfNow();
        Check.finish();
    }

    /** "A segment has Y, U and V, all 0 at first"; "Creates a dark picture". */
    private static void allSegmentsAreZeroAtFirst() {
        CompositeDecoder x = new CompositeDecoder();
        for (int n = 0; n < 8; n++) {
            Check.due("no segment becomes another one by 0, 0, 0", x.fill(n, 0, 0, 0), 0);
        }
        for (int n = 0; n < 8; n++) {
            for (int i = 0; i < 10; i++) {
                Check.due("the first Y of (" + n + ", " + i + ")", x.setSegment(n, i, 1 + n + i, 0, 0), 0);
            }
        }
    }

    /** "A line has a jitter (at first 0), a burst amplitude (20), a phase (0), a noise (0), and a pulse". */
    private static void allLinesAreAsToldAtFirst() {
        for (int n = 0; n < 8; n++) {
            CompositeDecoder x = new CompositeDecoder();
            for (int k = 0; k < 112; k++) {
                int want = k < 8 || k > 23 ? 0 : k < 16 ? -40 : -20 * SINE[(k + 2 * n) % 4];
                Check.due("new: sample(" + n + ", " + k + ")", x.sample(n, k), want);
            }
            Check.due("new: the pulse of " + n, x.miss(n, false), 0);
            Check.due("new: the jitter of " + n, x.setLine(n, 1, 20, 0, 0), 0);
        }
    }

    /** "The signal has a standard, 0 (steady, at first) or 1 (turned)". */
    private static void theStandardIsSteadyAtFirst() {
        CompositeDecoder x = new CompositeDecoder();
        Check.due("new: the standard", x.count(13), 0);
        Check.due("new: the standard before", x.setStandard(0), 0);
    }

    /** "8 lines with 10 segments each, both numbered from 0": each has its own place, the corners too. */
    private static void segmentsAreNumberedFromZero() {
        CompositeDecoder x = new CompositeDecoder();
        for (int n = 0; n < 8; n++) {
            for (int i = 0; i < 10; i++) {
                x.setSegment(n, i, 10 * n + i, 0, 0);
            }
        }
        for (int n = 0; n < 8; n++) {
            for (int i = 0; i < 10; i++) {
                Check.due("first of (" + n + ", " + i + ")", x.sample(n, 24 + 8 * i), 10 * n + i);
                Check.due("last of (" + n + ", " + i + ")", x.sample(n, 31 + 8 * i), 10 * n + i);
            }
        }
    }

    /** "Returns the previous Y", which can be the least and the greatest one. */
    private static void aSegmentTellsItsPreviousY() {
        CompositeDecoder x = new CompositeDecoder();
        Check.due("0 at first", x.setSegment(7, 9, 200, -60, 60), 0);
        Check.due("200", x.setSegment(7, 9, 0, 60, -60), 200);
        Check.due("0", x.setSegment(7, 9, 1, 0, 0), 0);
        Check.due("the refused Y", x.setSegment(7, 9, 201, 0, 0), BAD_VALUE);
        Check.due("1", x.setSegment(7, 9, 199, 0, 0), 1);
        Check.due("199", x.setSegment(7, 9, 199, 0, 0), 199);
    }

    /** "Returns the number of segments whose Y, U or V becomes another one": 0 to 10, by one of the three alone, too. */
    private static void fillCountsWhatBecomesAnother() {
        for (int others = 0; others <= 10; others++) {
            for (int which = 0; which < 3; which++) {
                CompositeDecoder x = new CompositeDecoder();
                x.fill(4, 50, 10, -10);
                for (int i = 0; i < others; i++) {
                    x.setSegment(4, 9 - i, which == 0 ? 51 : 50, which == 1 ? 11 : 10, which == 2 ? -11 : -10);
                }
                Check.due("others by " + which, x.fill(4, 50, 10, -10), others);
                Check.due("none behind it", x.fill(4, 50, 10, -10), 0);
            }
        }
    }

    private static void fillReachesOneLine() {
        for (int line : new int[] {0, 7}) {
            CompositeDecoder x = new CompositeDecoder();
            Check.due("fill " + line, x.fill(line, 200, 60, -60), 10);
            for (int n = 0; n < 8; n++) {
                Check.due("line " + n + " beside " + line, x.fill(n, 0, 0, 0), n == line ? 10 : 0);
            }
        }
    }

    /** "Returns the previous jitter": all from -4 to 4. */
    private static void setLineTellsThePreviousJitter() {
        CompositeDecoder x = new CompositeDecoder();
        int previous = 0;
        for (int jitter = -4; jitter <= 4; jitter++) {
            Check.due("the jitter before", x.setLine(7, jitter, 40, 3, 9), previous);
            Check.due("a refused one", x.setLine(7, 5, 0, 0, 0), BAD_VALUE);
            previous = jitter;
        }
        Check.due("the jitter before", x.setLine(7, 0, 20, 0, 0), 4);
        Check.due("the line 0 has its own", x.setLine(0, 0, 20, 0, 0), 0);
    }

    /** "Sets a line; its pulse is not missing." */
    private static void setLineBringsThePulseBack() {
        CompositeDecoder x = new CompositeDecoder();
        x.miss(2, true);
        x.miss(3, true);
        x.setLine(3, 0, 20, 0, 0);
        Check.due("there again", x.miss(3, true), 0);
        Check.due("that of another line stays missing", x.miss(2, true), 1);
        Check.due("a refused call", x.setLine(2, 0, 41, 0, 0), BAD_VALUE);
        Check.due("it stays missing then", x.miss(2, true), 1);
    }

    /** "Returns 1 if it was missing before, otherwise 0". */
    private static void missTellsWhetherItWasMissing() {
        CompositeDecoder x = new CompositeDecoder();
        for (int line : new int[] {0, 7}) {
            Check.due("at first", x.miss(line, false), 0);
            Check.due("there before", x.miss(line, true), 0);
            Check.due("missing before", x.miss(line, true), 1);
            Check.due("missing before", x.miss(line, false), 1);
            Check.due("there before", x.miss(line, false), 0);
        }
        Check.due("line 8", x.miss(8, true), UNKNOWN);
    }

    private static void standardsTellThePreviousOne() {
        CompositeDecoder x = new CompositeDecoder();
        Check.due("from 0 to 1", x.setStandard(1), 0);
        Check.due("refused", x.setStandard(2), BAD_VALUE);
        Check.due("from 1 to 1", x.setStandard(1), 1);
        Check.due("from 1 to 0", x.setStandard(0), 1);
        Check.due("from 0 to 0", x.setStandard(0), 0);
    }

    /** "if h is from 0 to 7", "from 8 to 15", "from 16 to 95", with h = k - 8 - j, at the ends of j. */
    private static void samplesAtTheEdgesOfTheirParts() {
        for (int jitter : new int[] {-4, -1, 0, 1, 4}) {
            CompositeDecoder x = new CompositeDecoder();
            // With the standard 1 no sample of a burst is 0, so that both its ends can be seen.
            x.setStandard(1);
            x.setLine(2, jitter, 9, 3, 0);
            x.setSegment(2, 0, 71, 0, 0);
            x.setSegment(2, 1, 81, 0, 0);
            x.setSegment(2, 8, 91, 0, 0);
            x.setSegment(2, 9, 101, 0, 0);
            int k = 8 + jitter;
            Check.due("h = -1", x.sample(2, k - 1), 0);
            Check.due("h = 0", x.sample(2, k), -40);
            Check.due("h = 7", x.sample(2, k + 7), -40);
            Check.due("h = 8", Math.abs(x.sample(2, k + 8)), 9);
            Check.due("h = 15", Math.abs(x.sample(2, k + 15)), 9);
            Check.due("h = 16", x.sample(2, k + 16), 71);
            Check.due("h = 23", x.sample(2, k + 23), 71);
            Check.due("h = 24", x.sample(2, k + 24), 81);
            Check.due("h = 87", x.sample(2, k + 87), 91);
            Check.due("h = 88", x.sample(2, k + 88), 101);
            Check.due("h = 95", x.sample(2, k + 95), 101);
            Check.due("h = 96", x.sample(2, k + 96), 0);
            Check.due("the first sample", x.sample(2, 0), 0);
            Check.due("the last sample", x.sample(2, 111), 0);
        }
    }

    /** "-40 if h is from 0 to 7 and the pulse is not missing": nothing else goes with it. */
    private static void thePulseCanBeMissing() {
        CompositeDecoder x = new CompositeDecoder();
        x.setLine(0, 0, 40, 1, 1);
        x.miss(0, true);
        int[] noise = {-1, 1, -2, 0, 2, -1, 1, -2};
        for (int h = 0; h < 8; h++) {
            Check.due("noise alone", x.sample(0, 8 + h), noise[h]);
        }
        Check.due("the burst stays", x.sample(0, 16), -40);
        Check.due("the line 1 has its pulse", x.sample(1, 8), -40);
    }

    /** Amplitudes 0 and 40, and the next ones inside. */
    private static void burstsFromNoneToTheLargest() {
        CompositeDecoder x = new CompositeDecoder();
        for (int amplitude : new int[] {0, 1, 39, 40}) {
            x.setLine(0, 0, amplitude, 0, 0);
            Check.due("t = 0", x.sample(0, 16), 0);
            Check.due("t = 1", x.sample(0, 17), -amplitude);
            Check.due("t = 2", x.sample(0, 18), 0);
            Check.due("t = 3", x.sample(0, 19), amplitude);
            Check.due("t = 3, the last", x.sample(0, 23), amplitude);
        }
    }

    /** "z = -1 if the standard is 1 and n is odd, otherwise 1": V and the turned part of the burst. */
    private static void standardsAndOddLines() {
        for (int n = 0; n < 8; n++) {
            for (int standard = 0; standard < 2; standard++) {
                CompositeDecoder x = new CompositeDecoder();
                x.setStandard(standard);
                x.fill(n, 100, 0, 30);
                int z = standard == 1 && n % 2 == 1 ? -1 : 1;
                int zero = 16 + 2 * (n % 2);
                Check.due("the burst at t = 0", x.sample(n, zero), standard == 1 ? z * 20 : 0);
                Check.due("the burst at t = 1", x.sample(n, zero + 1), -20);
                Check.due("V at t = 0", x.sample(n, zero + 8), 100 + z * 30);
                Check.due("V at t = 1", x.sample(n, zero + 9), 100);
            }
        }
    }

    /** "t = (k + 2 * n + p) mod 4" from 0 to 3, for all lines and phases, at the ends of a segment. */
    private static void carriersAtEachPhase() {
        for (int n = 0; n < 8; n++) {
            for (int phase = 0; phase < 4; phase++) {
                CompositeDecoder x = new CompositeDecoder();
                x.setLine(n, 0, 0, phase, 0);
                x.fill(n, 100, 60, -60);
                for (int k : new int[] {24, 25, 26, 27, 28, 100, 101, 102, 103}) {
                    int t = (k + 2 * n + phase) % 4;
                    Check.due("sample(" + n + ", " + k + ")", x.sample(n, k), 100 + 60 * SINE[t] - 60 * COSINE[t]);
                }
                Check.due("no carrier beyond", x.sample(n, 104), 0);
            }
        }
    }

    /** "the noise of the line times ((7 * k + 13 * n) mod 5 - 2)", at the first and the last sample, outside all parts. */
    private static void noiseAtBothEnds() {
        int[] first = {-2, 1, -1, 2, 0, -2, 1, -1};
        int[] last = {0, -2, 1, -1, 2, 0, -2, 1};
        for (int n = 0; n < 8; n++) {
            for (int noise : new int[] {0, 1, 9}) {
                CompositeDecoder x = new CompositeDecoder();
                x.setLine(n, 0, 0, 0, noise);
                Check.due("sample(" + n + ", 0)", x.sample(n, 0), noise * first[n]);
                Check.due("sample(" + n + ", 111)", x.sample(n, 111), noise * last[n]);
            }
        }
    }

    private static void theLargestAndTheSmallestSample() {
        CompositeDecoder x = new CompositeDecoder();
        x.setLine(0, 0, 40, 0, 9);
        x.fill(0, 200, 60, 60);
        // (7 * 37) mod 5 = 4 with t = 1; (7 * 35) mod 5 = 0 with t = 3; (7 * 10) mod 5 = 0 in the pulse.
        Check.due("the largest", x.sample(0, 37), 200 + 60 + 18);
        x.fill(0, 0, 60, 60);
        Check.due("the smallest of a segment", x.sample(0, 35), -60 - 18);
        Check.due("the smallest of a pulse", x.sample(0, 10), -40 - 18);
        x.setLine(0, 0, 40, 3, 9);
        // (7 * 20) mod 5 = 0 with t = (20 + 3) mod 4 = 3, so the phase 1 gives t = 1: the smallest of a burst.
        Check.due("the largest of a burst, with the least noise", x.sample(0, 20), 40 - 18);
        x.setLine(0, 0, 40, 1, 9);
        Check.due("the smallest of a burst", x.sample(0, 20), -40 - 18);
    }

    /** sample tells the picture as it is, not as it was decoded. */
    private static void samplesTellThePictureOfNow() {
        CompositeDecoder x = new CompositeDecoder();
        x.fill(3, 10, 0, 0);
        Check.due("before a decoding", x.sample(3, 30), 10);
        x.decode();
        Check.due("behind it", x.sample(3, 30), 10);
        x.fill(3, 20, 0, 0);
        Check.due("as it is now", x.sample(3, 30), 20);
    }
}
