/** Promises 12 and 13, and the term Pulses: each sentence that names an edge. Jitters give pulses at 8 + jitter. */
public final class FlywheelEdgesTest {
    private static final int NONE = CompositeDecoder.NONE;
    private static final int PULSE = 0;
    private static final int START = 1;
    private static final int LOCKED = 2;
    private static final int POSITION = 7;
    /** Stands for the jitter of a line whose pulse is missing. */
    private static final int GONE = 99;

    public static void main(String[] args) {
        everyDecodingBeginsAtThirtyTwo();
        everyDecodingBeginsWithoutHits();
        everyDecodingBeginsWithoutMisses();
        everyDecodingBeginsUnlocked();
        theLeastPlaceIsTold();
        thePlaceTwentyIsTheLast();
        minusTwentyIsLowEnough();
        fourLowSamplesAreNeeded();
        theReachIsTwelve();
        halvesAreRoundedTowardsZero();
        twoHitsLock();
        aMissEndsTheHits();
        fourMissesUnlock();
        aHitEndsTheMisses();
        lockedItStaysWhenOutOfReach();
        unlockedItJumps();
        theStartIsRoundedDown();
        theStartOfAnUnlockedLine();
        theNumberOfLockedLines();
        beforeAndBehindTheDecoding();
        Check.finish();
    }

    /** "a position F in quarters of a sample, 32 at the beginning of each decoding". */
    private static void everyDecodingBeginsAtThirtyTwo() {
        CompositeDecoder x = decoded(GONE, GONE, GONE, GONE, GONE, GONE, GONE, GONE);
        rows(x, POSITION, 32, 32, 32, 32, 32, 32, 32, 32);
        rows(x, START, 8, 8, 8, 8, 8, 8, 8, 8);
        x = decoded(0, 0, 0, 0, 0, 0, 0, 3);
        Check.due("it ends at 38", x.line(7, POSITION), 38);
        send(x, 3, 0, 0, 0, 0, 0, 0, 0);
        x.decode();
        Check.due("from 32, not from 38", x.line(0, POSITION), 38);
    }

    /** "it counts hits and misses (0 at the beginning)": one hit of the decoding before does not count. */
    private static void everyDecodingBeginsWithoutHits() {
        CompositeDecoder x = decoded(GONE, GONE, GONE, GONE, GONE, GONE, GONE, 0);
        rows(x, LOCKED, 0, 0, 0, 0, 0, 0, 0, 0);
        send(x, 0, GONE, GONE, GONE, GONE, GONE, GONE, GONE);
        Check.due("one hit a decoding", x.decode(), 0);
        rows(x, LOCKED, 0, 0, 0, 0, 0, 0, 0, 0);
    }

    /** Three misses at the end of the decoding before do not count: with a fourth one at its end it would be unlocked. */
    private static void everyDecodingBeginsWithoutMisses() {
        CompositeDecoder x = decoded(0, 0, 0, 0, 0, GONE, GONE, GONE);
        rows(x, LOCKED, 0, 1, 1, 1, 1, 1, 1, 1);
        Check.due("the same again", x.decode(), 7);
        x = decoded(0, 0, 0, 0, GONE, GONE, GONE, GONE);
        rows(x, LOCKED, 0, 1, 1, 1, 1, 1, 1, 0);
        send(x, GONE, 0, 0, GONE, GONE, GONE, 0, 0);
        Check.due("behind four misses", x.decode(), 6);
        rows(x, LOCKED, 0, 0, 1, 1, 1, 1, 1, 1);
    }

    /** "and is not locked at the beginning". */
    private static void everyDecodingBeginsUnlocked() {
        CompositeDecoder x = decoded(0, 0, 0, 0, 0, 0, 0, 0);
        Check.due("locked at the end", x.line(7, LOCKED), 1);
        send(x, 4, 4, 4, 4, 4, 4, 4, 4);
        x.decode();
        Check.due("not locked at the begin", x.line(0, LOCKED), 0);
        Check.due("so it jumps", x.line(0, POSITION), 48);
        Check.due("and the start is the pulse's", x.line(0, START), 12);
    }

    /** "found at the least k from 0 to 20 for which the samples k to k + 3 are all at most -20". */
    private static void theLeastPlaceIsTold() {
        for (int jitter = -4; jitter <= 4; jitter++) {
            for (int noise = 0; noise < 10; noise += 9) {
                CompositeDecoder x = new CompositeDecoder();
                x.setLine(5, jitter, 40, 3, noise);
                x.decode();
                Check.due("jitter " + jitter, x.line(5, PULSE), 8 + jitter);
            }
        }
    }

    /** With the pulse missing, the end of a turned burst and the begin of a segment make four low samples. */
    private static void thePlaceTwentyIsTheLast() {
        CompositeDecoder x = lowAt(18, -4, 3, 40, 60);
        Check.due("at 18", x.line(0, PULSE), 18);
        x = lowAt(20, -2, 1, 40, 60);
        Check.due("at 20", x.line(0, PULSE), 20);
        Check.due("its start", x.line(0, START), 20);
        Check.due("its position", x.line(0, POSITION), 80);
        x = lowAt(21, -1, 0, 40, 60);
        Check.due("at 21", x.line(0, PULSE), NONE);
        Check.due("the start without it", x.line(0, START), 8);
        Check.due("the position without it", x.line(0, POSITION), 32);
    }

    /** "all at most -20": -20 is low enough and -19 is not, at the first two samples and at the last two. */
    private static void minusTwentyIsLowEnough() {
        Check.due("all -20", lowAt(20, -2, 1, 20, 20).line(0, PULSE), 20);
        Check.due("the first two are -19", lowAt(20, -2, 1, 19, 20).line(0, PULSE), NONE);
        Check.due("the last two are -19", lowAt(20, -2, 1, 20, 19).line(0, PULSE), NONE);
        Check.due("the first two are -21", lowAt(20, -2, 1, 21, 20).line(0, PULSE), 20);
        Check.due("the last two are -21", lowAt(20, -2, 1, 20, 21).line(0, PULSE), 20);
    }

    private static void fourLowSamplesAreNeeded() {
        CompositeDecoder x = lowAt(20, -2, 1, 40, 60);
        int[] around = {40, -40, -40, -60, -60, 60};
        for (int i = 0; i < 6; i++) {
            Check.due("sample " + (19 + i), x.sample(0, 19 + i), around[i]);
        }
        // Without V the fourth one is 0, without U the third one.
        x.fill(0, 0, 60, 0);
        x.decode();
        Check.due("two and one low", x.line(0, PULSE), NONE);
        x.fill(0, 0, 0, -60);
        x.decode();
        Check.due("two, and one behind a gap", x.line(0, PULSE), NONE);
    }

    /** "d = 4 * k - F is from -12 to 12". */
    private static void theReachIsTwelve() {
        positions("d = 12", 38, 3);
        positions("d = 16, unlocked", 48, 4);
        positions("d = -12", 26, -3);
        positions("d = -16, unlocked", 16, -4);
        positions("26, 23, d = 13 when locked", 23, -3, -3, 1);
        positions("38, 41, d = -13 when locked", 41, 3, 3, -1);
        positions("32, 36, d = -12 again", 30, 2, -2);
        positions("32, 28, d = 12 again", 34, -2, 2);
        locks("d = 12 is a hit", 1, 3, 3);
        locks("d = -12 is a hit", 1, -3, -3);
        locks("d = 16 is a miss", 0, 4, 4);
        locks("d = -16 is a miss", 0, -4, -4);
        locks("d = 12 behind a hit", 1, -2, 2);
        locks("d = 14 behind a hit: 34 - 2 * 2", 0, 1, -3);
        locks("d = -14 behind a hit: 30 - 44", 0, -1, 3);
    }

    /** "F increases by d / 2 (rounded towards zero)": each odd d from -11 to 11, from 33 and from 31. */
    private static void halvesAreRoundedTowardsZero() {
        int[] from33 = {29, 31, 33, 34, 36, 38};
        int[] from31 = {26, 28, 30, 31, 33, 35};
        for (int i = 0; i < 6; i++) {
            positions("33, d = " + (4 * i - 9), from33[i], 1, 0, i - 2);
            positions("31, d = " + (4 * i - 11), from31[i], -1, 0, i - 3);
        }
        // Even ones, from 34 and from 36.
        int[] from34 = {29, 31, 33, 35, 37, 39};
        int[] from36 = {30, 32, 34, 36, 38, 40, 42};
        for (int i = 0; i < 6; i++) {
            positions("34, d = " + (4 * i - 10), from34[i], 1, i - 2);
        }
        for (int i = 0; i < 7; i++) {
            positions("36, d = " + (4 * i - 12), from36[i], 2, i - 2);
        }
    }

    /** "becomes locked if hits are at least 2". */
    private static void twoHitsLock() {
        CompositeDecoder x = decoded(0, GONE, GONE, GONE, GONE, GONE, GONE, GONE);
        rows(x, LOCKED, 0, 0, 0, 0, 0, 0, 0, 0);
        x = decoded(0, 0, GONE, GONE, GONE, GONE, GONE, GONE);
        rows(x, LOCKED, 0, 1, 1, 1, 1, 0, 0, 0);
        x = decoded(GONE, GONE, GONE, GONE, GONE, GONE, 0, 0);
        rows(x, LOCKED, 0, 0, 0, 0, 0, 0, 0, 1);
        x = decoded(GONE, GONE, GONE, GONE, GONE, GONE, GONE, 0);
        rows(x, LOCKED, 0, 0, 0, 0, 0, 0, 0, 0);
    }

    /** "Otherwise misses increase by 1, hits become 0": without a pulse, and with one out of reach. */
    private static void aMissEndsTheHits() {
        CompositeDecoder x = decoded(0, GONE, 0, GONE, 0, GONE, 0, GONE);
        rows(x, LOCKED, 0, 0, 0, 0, 0, 0, 0, 0);
        x = decoded(0, GONE, 0, 0, GONE, GONE, GONE, 0);
        rows(x, LOCKED, 0, 0, 0, 1, 1, 1, 1, 1);
        // 32 (hit), 48 (out of reach, a jump), 48 (hit), 32 (out of reach, a jump), 32 (hit), 32 (the second hit).
        x = decoded(0, 4, 4, 0, 0, 0, 0, 0);
        rows(x, POSITION, 32, 48, 48, 32, 32, 32, 32, 32);
        rows(x, LOCKED, 0, 0, 0, 0, 0, 1, 1, 1);
    }

    /** "becomes not locked if misses are at least 4". */
    private static void fourMissesUnlock() {
        CompositeDecoder x = decoded(0, 0, GONE, GONE, GONE, 0, 0, 0);
        rows(x, LOCKED, 0, 1, 1, 1, 1, 1, 1, 1);
        x = decoded(0, 0, GONE, GONE, GONE, GONE, 0, 0);
        rows(x, LOCKED, 0, 1, 1, 1, 1, 0, 0, 1);
        x = decoded(0, 0, GONE, GONE, GONE, GONE, GONE, 0);
        rows(x, LOCKED, 0, 1, 1, 1, 1, 0, 0, 0);
        x = decoded(0, 0, 0, 0, GONE, GONE, GONE, GONE);
        rows(x, LOCKED, 0, 1, 1, 1, 1, 1, 1, 0);
        // Misses ahead of the first hit are over with it.
        x = decoded(GONE, GONE, GONE, GONE, GONE, 0, 0, GONE);
        rows(x, LOCKED, 0, 0, 0, 0, 0, 0, 1, 1);
        // A pulse out of reach is a miss as one that is not there is.
        x = decoded(0, 0, 4, -4, GONE, 4, GONE, 0);
        rows(x, LOCKED, 0, 1, 1, 1, 1, 0, 0, 0);
    }

    /** "hits increase by 1, and misses become 0". */
    private static void aHitEndsTheMisses() {
        CompositeDecoder x = decoded(0, 0, GONE, GONE, GONE, 0, GONE, GONE);
        rows(x, LOCKED, 0, 1, 1, 1, 1, 1, 1, 1);
        x = decoded(GONE, GONE, GONE, 0, 0, GONE, GONE, GONE);
        rows(x, LOCKED, 0, 0, 0, 0, 1, 1, 1, 1);
        x = decoded(GONE, GONE, 0, GONE, GONE, 0, 0, GONE);
        rows(x, LOCKED, 0, 0, 0, 0, 0, 0, 1, 1);
    }

    /** "if it is found and the flywheel is not locked, F becomes 4 * k": not when it is locked, the fourth time neither. */
    private static void lockedItStaysWhenOutOfReach() {
        CompositeDecoder x = decoded(0, 0, 4, 4, 4, 4, 4, 4);
        rows(x, POSITION, 32, 32, 32, 32, 32, 32, 48, 48);
        rows(x, PULSE, 8, 8, 12, 12, 12, 12, 12, 12);
        // The fourth miss unlocks it behind its pulse: the start is that of the pulse then, not that of the flywheel.
        rows(x, START, 8, 8, 8, 8, 8, 12, 12, 12);
        rows(x, LOCKED, 0, 1, 1, 1, 1, 0, 0, 0);
    }

    /** Unlocked: a pulse out of reach moves the flywheel; one that is not there leaves it. */
    private static void unlockedItJumps() {
        CompositeDecoder x = decoded(4, GONE, -4, GONE, 4, GONE, GONE, -4);
        rows(x, POSITION, 48, 48, 16, 16, 48, 48, 48, 16);
        rows(x, START, 12, 12, 4, 4, 12, 12, 12, 4);
        rows(x, LOCKED, 0, 0, 0, 0, 0, 0, 0, 0);
        rows(x, PULSE, 12, NONE, 4, NONE, 12, NONE, NONE, 4);
    }

    /** "The start of the line is (F + 2) / 4", which rounds down. */
    private static void theStartIsRoundedDown() {
        CompositeDecoder x = decoded(3, 3, 3, 3, 3, 3, 3, 3);
        rows(x, POSITION, 38, 41, 42, 43, 43, 43, 43, 43);
        rows(x, START, 11, 10, 11, 11, 11, 11, 11, 11);
        x = decoded(-3, -3, -3, -3, -3, -3, -3, -3);
        rows(x, POSITION, 26, 23, 22, 21, 21, 21, 21, 21);
        rows(x, START, 5, 6, 6, 5, 5, 5, 5, 5);
        x = decoded(1, 1, 1, 0, 0, 0, 0, 0);
        rows(x, POSITION, 34, 35, 35, 34, 33, 33, 33, 33);
        rows(x, START, 9, 9, 9, 9, 8, 8, 8, 8);
        x = decoded(-1, -1, -2, 0, 0, 0, 0, 0);
        rows(x, POSITION, 30, 29, 27, 29, 30, 31, 31, 31);
        rows(x, START, 7, 7, 7, 7, 8, 8, 8, 8);
    }

    /** "if the flywheel is locked or the pulse is not found, and otherwise k". */
    private static void theStartOfAnUnlockedLine() {
        CompositeDecoder x = decoded(3, GONE, GONE, GONE, GONE, GONE, GONE, 2);
        rows(x, POSITION, 38, 38, 38, 38, 38, 38, 38, 39);
        rows(x, START, 11, 10, 10, 10, 10, 10, 10, 10);
        x = decoded(-3, GONE, GONE, GONE, GONE, GONE, GONE, -1);
        rows(x, POSITION, 26, 26, 26, 26, 26, 26, 26, 27);
        rows(x, START, 5, 7, 7, 7, 7, 7, 7, 7);
        rows(x, PULSE, 5, NONE, NONE, NONE, NONE, NONE, NONE, 7);
    }

    /** "Returns the number of lines at which the flywheel is locked (behind their pulses)": 0 to 7, as the first never is. */
    private static void theNumberOfLockedLines() {
        for (int gone = 0; gone <= 8; gone++) {
            CompositeDecoder x = new CompositeDecoder();
            for (int n = 0; n < gone; n++) {
                x.miss(n, true);
            }
            Check.due(gone + " missing ones ahead", x.decode(), Math.max(0, 7 - gone));
        }
    }

    /** NONE before the first decoding; behind it, only the next one tells of a picture that has become another one. */
    private static void beforeAndBehindTheDecoding() {
        CompositeDecoder x = new CompositeDecoder();
        for (int n = 0; n < 8; n++) {
            for (int what = 0; what < 8; what++) {
                Check.due("before the first decoding", x.line(n, what), NONE);
            }
        }
        x.decode();
        send(x, 4, 4, 4, 4, GONE, GONE, GONE, GONE);
        x.setStandard(1);
        x.set(0, 40);
        rows(x, PULSE, 8, 8, 8, 8, 8, 8, 8, 8);
        rows(x, START, 8, 8, 8, 8, 8, 8, 8, 8);
        rows(x, LOCKED, 0, 1, 1, 1, 1, 1, 1, 1);
        rows(x, POSITION, 32, 32, 32, 32, 32, 32, 32, 32);
        x.decode();
        rows(x, PULSE, 12, 12, 12, 12, NONE, NONE, NONE, NONE);
        rows(x, POSITION, 48, 48, 48, 48, 48, 48, 48, 48);
    }

    /** A decoded line 0 without a pulse, whose samples from 'place' on are -amplitude twice and -color twice. */
    private static CompositeDecoder lowAt(int place, int jitter, int phase, int amplitude, int color) {
        CompositeDecoder x = new CompositeDecoder();
        x.setStandard(1);
        x.setLine(0, jitter, amplitude, phase, 0);
        x.miss(0, true);
        x.fill(0, 0, color, -color);
        Check.due("the first low sample", x.sample(0, place), -amplitude);
        Check.due("the second one", x.sample(0, place + 1), -amplitude);
        Check.due("the third one", x.sample(0, place + 2), -color);
        Check.due("the fourth one", x.sample(0, place + 3), -color);
        x.decode();
        return x;
    }

    /** Where the flywheel stands behind lines with the given jitters. */
    private static void positions(String what, int want, int... jitters) {
        Check.due("the position with " + what, begun(jitters).line(jitters.length - 1, POSITION), want);
    }

    private static void locks(String what, int want, int... jitters) {
        Check.due("locked: " + what, begun(jitters).line(jitters.length - 1, LOCKED), want);
    }

    private static CompositeDecoder begun(int... jitters) {
        CompositeDecoder x = new CompositeDecoder();
        for (int n = 0; n < jitters.length; n++) {
            x.setLine(n, jitters[n], 20, 0, 0);
        }
        x.decode();
        return x;
    }

    private static CompositeDecoder decoded(int... jitters) {
        CompositeDecoder x = new CompositeDecoder();
        send(x, jitters);
        x.decode();
        return x;
    }

    private static void send(CompositeDecoder x, int... jitters) {
        for (int n = 0; n < 8; n++) {
            x.setLine(n, jitters[n] == GONE ? 0 : jitters[n], 20, 0, 0);
            x.miss(n, jitters[n] == GONE);
        }
    }

    private static void rows(CompositeDecoder x, int what, int... want) {
        for (int n = 0; n < 8; n++) {
            Check.due("line(" + n + ", " + what + ")", x.line(n, what), want[n]);
        }
    }
}
