/** Promises 20 and 21, and the term Motion: each sentence that names an edge. */
public final class MotionEdgesTest {
    private static final int BAD_VALUE = CompositeDecoder.BAD_VALUE;
    private static final int NONE = CompositeDecoder.NONE;
    private static final int STILL = 0;
    private static final int NOISE = 1;
    private static final int MOVING = 2;

    public static void main(String[] args) {
        beforeTheSecondDecoding();
        theFirstDecodingIsNoChange();
        moreThanTheLimit();
        theLimitAsItIsThen();
        fromTheDecodingBefore();
        eachNeighborAlone();
        cornersAndEndsAreNoNeighbors();
        neighborsBeyondThePicture();
        allSegmentsCanMove();
        motionStaysUntilTheNextDecoding();
        countsBeforeTheFirst();
        theNumberOfDecodings();
        linesWithColor();
        lumasAgainstThePictureOfNow();
        theSumOfAllDifferences();
        waysAddUpToAllSegments();
        countsOfThePictureAndTheSettings();
        Check.finish();
    }

    /** "NONE before the second one", in all segments, and of the counts 7 and 8. */
    private static void beforeTheSecondDecoding() {
        CompositeDecoder x = notched();
        for (int done = 0; done < 2; done++) {
            for (int n = 0; n < 8; n++) {
                for (int i = 0; i < 10; i++) {
                    Check.due("motion behind " + done, x.motion(n, i), NONE);
                }
            }
            Check.due("moving behind " + done, x.count(7), NONE);
            Check.due("noise behind " + done, x.count(8), NONE);
            x.decode();
        }
        for (int n = 0; n < 8; n++) {
            for (int i = 0; i < 10; i++) {
                Check.due("motion behind 2", x.motion(n, i), STILL);
            }
        }
        Check.due("moving behind 2", x.count(7), 0);
        Check.due("noise behind 2", x.count(8), 0);
    }

    /** "Behind each decoding but the first one": from a new object to a bright picture is no change. */
    private static void theFirstDecodingIsNoChange() {
        CompositeDecoder x = notched();
        for (int n = 0; n < 8; n++) {
            x.fill(n, 200, 0, 0);
        }
        x.decode();
        x.decode();
        Check.due("moving", x.count(7), 0);
        Check.due("noise", x.count(8), 0);
    }

    /** "differs by more than the limit": a Y of 16 alone makes a luma of 28 * 16 / 32 = 14, and 1 at its sides. */
    private static void moreThanTheLimit() {
        for (int up = 0; up < 2; up++) {
            alone("14 with the limit 13", 13, up, NOISE);
            alone("14 with the limit 14", 14, up, STILL);
            alone("14 with the limit 15", 15, up, STILL);
            alone("14 with the limit 1, and 1 beside it", 1, up, NOISE);
            alone("14 with the limit 0, and 1 beside it", 0, up, MOVING);
            alone("14 with the limit 100", 100, up, STILL);
        }
        // Inside of a whole line the luma is Y: 100 and 101 are the edge of the greatest limit.
        for (int y = 100; y < 102; y++) {
            CompositeDecoder x = notched();
            x.set(1, 100);
            x.decode();
            x.fill(4, y, 0, 0);
            x.decode();
            Check.due("the luma", x.luma(4, 5), y);
            Check.due(y + " with the limit 100", x.motion(4, 5), y == 100 ? STILL : MOVING);
        }
    }

    private static void alone(String what, int limit, int up, int want) {
        CompositeDecoder x = notched();
        x.set(1, limit);
        x.setSegment(4, 5, up == 1 ? 0 : 16, 0, 0);
        x.decode();
        x.setSegment(4, 5, up == 1 ? 16 : 0, 0, 0);
        x.decode();
        Check.due("the luma", x.luma(4, 5), up == 1 ? 14 : 0);
        Check.due(what, x.motion(4, 5), want);
        Check.due(what + ": noise", x.count(8), want == NOISE ? 1 : 0);
        Check.due(what + ": moving", x.count(7), want == MOVING ? 3 : 0);
    }

    /** "by more than the limit (as it is then)": at the second decoding, not at the first one, nor later. */
    private static void theLimitAsItIsThen() {
        CompositeDecoder x = notched();
        x.set(1, 14);
        x.decode();
        x.setSegment(4, 5, 16, 0, 0);
        x.set(1, 13);
        x.decode();
        Check.due("13 at the second one", x.motion(4, 5), NOISE);
        x.set(1, 100);
        Check.due("100 behind it", x.motion(4, 5), NOISE);
        Check.due("100 behind it", x.count(8), 1);
        x.setSegment(4, 5, 0, 0, 0);
        x.set(1, 14);
        x.decode();
        x.set(1, 0);
        Check.due("14 at the third one, 0 behind it", x.motion(4, 5), STILL);
        Check.due("14 at the third one, 0 behind it", x.count(8), 0);
    }

    /** "from that of the decoding before": not from an older one, however far it has gone. */
    private static void fromTheDecodingBefore() {
        CompositeDecoder x = notched();
        x.decode();
        for (int y = 10; y <= 200; y += 10) {
            x.fill(4, y, 0, 0);
            x.decode();
            Check.due("the luma", x.luma(4, 5), y);
            Check.due("10 a step", x.motion(4, 5), STILL);
        }
        x.fill(4, 189, 0, 0);
        x.decode();
        Check.due("11 back", x.motion(4, 5), MOVING);
        x.decode();
        Check.due("the same again", x.motion(4, 5), STILL);
    }

    /** "moving if at least one of the segments to its left, to its right, above and below has changed, too". */
    private static void eachNeighborAlone() {
        pair("to its left", 4, 4, MOVING);
        pair("to its right", 4, 6, MOVING);
        pair("above", 3, 5, MOVING);
        pair("below", 5, 5, MOVING);
        pair("two to its left", 4, 3, NOISE);
        pair("two to its right", 4, 7, NOISE);
        pair("two above", 2, 5, NOISE);
        pair("two below", 6, 5, NOISE);
    }

    private static void cornersAndEndsAreNoNeighbors() {
        pair("left above", 3, 4, NOISE);
        pair("right above", 3, 6, NOISE);
        pair("left below", 5, 4, NOISE);
        pair("right below", 5, 6, NOISE);
        CompositeDecoder x = changed(new int[][] {{3, 9}, {4, 0}});
        motions(x, "the end of a line and the begin of the next one", NOISE, 3, 9, 4, 0);
        x = changed(new int[][] {{3, 9}, {5, 0}});
        motions(x, "the end of a line and the begin of the next but one", NOISE, 3, 9, 5, 0);
        x = changed(new int[][] {{0, 5}, {7, 5}});
        motions(x, "the first and the last line", NOISE, 0, 5, 7, 5);
        x = changed(new int[][] {{4, 0}, {4, 9}});
        motions(x, "both ends of a line", NOISE, 4, 0, 4, 9);
    }

    /** At the corners of the picture there are two neighbors: each can make it move, and none is needed to ask. */
    private static void neighborsBeyondThePicture() {
        for (int n : new int[] {0, 7}) {
            for (int i : new int[] {0, 9}) {
                CompositeDecoder x = changed(new int[][] {{n, i}});
                Check.due("a corner alone", x.motion(n, i), NOISE);
                Check.due("noise", x.count(8), 1);
                Check.due("moving", x.count(7), 0);
                int beside = i == 0 ? 1 : 8;
                int across = n == 0 ? 1 : 6;
                motions(changed(new int[][] {{n, i}, {n, beside}}), "beside a corner", MOVING, n, i, n, beside);
                motions(changed(new int[][] {{n, i}, {across, i}}), "across a corner", MOVING, n, i, across, i);
            }
        }
    }

    private static void allSegmentsCanMove() {
        CompositeDecoder x = notched();
        x.decode();
        for (int n = 0; n < 8; n++) {
            x.fill(n, 200, 0, 0);
        }
        x.decode();
        Check.due("all move", x.count(7), 80);
        Check.due("none is noise", x.count(8), 0);
        // No two of them touch: every second one, as on a board of chess.
        x = notched();
        x.set(1, 20);
        x.decode();
        for (int n = 0; n < 8; n++) {
            for (int i = n % 2; i < 10; i += 2) {
                x.setSegment(n, i, 100, 0, 0);
            }
        }
        x.decode();
        Check.due("none moves", x.count(7), 0);
        Check.due("all changed ones are noise", x.count(8), 40);
    }

    /** "by the latest two decodings". */
    private static void motionStaysUntilTheNextDecoding() {
        CompositeDecoder x = changed(new int[][] {{2, 2}, {5, 5}, {5, 6}});
        x.setSegment(2, 2, 0, 0, 0);
        x.fill(5, 0, 0, 0);
        Check.due("noise stays", x.motion(2, 2), NOISE);
        Check.due("moving stays", x.motion(5, 6), MOVING);
        Check.due("its count stays", x.count(7), 2);
        Check.due("its count stays", x.count(8), 1);
        x.decode();
        Check.due("back is a change, too", x.motion(2, 2), NOISE);
        Check.due("back is a change, too", x.motion(5, 6), MOVING);
        x.decode();
        Check.due("over", x.count(7) + x.count(8), 0);
        Check.due("over", x.motion(2, 2), STILL);
    }

    /** "NONE for 1 to 6 and 9 to 12 before the first decoding"; BAD_VALUE for what is not told at all. */
    private static void countsBeforeTheFirst() {
        CompositeDecoder x = new CompositeDecoder();
        int[] first = {0, NONE, NONE, NONE, NONE, NONE, NONE, NONE, NONE, NONE, NONE, NONE, NONE, 0, 0, 8, 10, 3, 2};
        int[] second = {1, 0, 0, 7, 8, 0, 0, NONE, NONE, 0, 10, 10, 60, 0, 0, 8, 10, 3, 2};
        int[] third = {2, 0, 0, 7, 8, 0, 0, 0, 0, 0, 10, 10, 60, 0, 0, 8, 10, 3, 2};
        for (int[] want : new int[][] {first, second, third}) {
            for (int what = 0; what < 19; what++) {
                Check.due("count " + what + " behind " + want[0], x.count(what), want[what]);
            }
            for (int what : new int[] {-1, 19, Integer.MIN_VALUE, Integer.MAX_VALUE}) {
                Check.due("count " + what, x.count(what), BAD_VALUE);
            }
            x.decode();
        }
    }

    /** "0 for the number of decodings": up to the 511th, as the 512th call asks. */
    private static void theNumberOfDecodings() {
        CompositeDecoder x = new CompositeDecoder();
        for (int i = 0; i < 511; i++) {
            Check.due("locked lines", x.decode(), 7);
        }
        Check.due("decodings", x.count(0), 511);
        x = new CompositeDecoder();
        x.decode();
        x.set(0, 41);
        x.setStandard(-1);
        x.clearText();
        Check.due("nothing but a decoding counts", x.count(0), 1);
    }

    /** "4 for lines at which color is on": 1 to 8, as the first line's color is always on. */
    private static void linesWithColor() {
        for (int bad = 0; bad <= 8; bad++) {
            CompositeDecoder x = new CompositeDecoder();
            for (int n = 8 - bad; n < 8; n++) {
                x.setLine(n, 0, 0, 0, 0);
            }
            x.decode();
            Check.due(bad + " bad bursts at the end", x.count(4), bad < 2 ? 8 : 9 - bad);
        }
    }

    /** "5 for segments whose luma is not Y of the picture as it is now", with errors and refused calls between. */
    private static void lumasAgainstThePictureOfNow() {
        CompositeDecoder x = notched();
        x.set(2, 2);
        x.decode();
        Check.due("none", x.count(5), 0);
        x.setSegment(0, 0, 1, 0, 0);
        Check.due("the first", x.count(5), 1);
        x.setSegment(7, 9, 200, 0, 0);
        Check.due("and the last", x.count(5), 2);
        x.setSegment(7, 9, 201, 0, 0);
        Check.due("a refused one", x.count(5), 2);
        x.setSegment(3, 3, 0, 60, -60);
        Check.due("colors do not count", x.count(5), 2);
        x.setSegment(7, 9, 0, 0, 0);
        Check.due("back again", x.count(5), 1);
        for (int n = 0; n < 8; n++) {
            x.fill(n, 1, 0, 0);
        }
        Check.due("all", x.count(5), 80);
    }

    /** "6 for the sum of the differences without signs": from 0 to 200 for each segment. */
    private static void theSumOfAllDifferences() {
        CompositeDecoder x = notched();
        x.set(2, 2);
        x.decode();
        Check.due("none", x.count(6), 0);
        for (int n = 0; n < 8; n++) {
            x.fill(n, 200, 0, 0);
        }
        Check.due("lumas below Y", x.count(6), 16000);
        x.decode();
        Check.due("none", x.count(6), 0);
        for (int n = 0; n < 8; n++) {
            x.fill(n, 0, 0, 0);
        }
        Check.due("lumas above Y", x.count(6), 16000);
        x.fill(0, 200, 0, 0);
        x.setSegment(0, 0, 199, 0, 0);
        x.setSegment(1, 0, 1, 0, 0);
        Check.due("1 and 199 apart", x.count(6), 1 + 199 + 69 * 200);
        Check.due("wrong ones", x.count(5), 71);
    }

    /** "9 to 12 for segments that were combed in the ways 0 to 3": 80 in all. */
    private static void waysAddUpToAllSegments() {
        int[][] counts = {{80, 0, 0, 0}, {0, 70, 10, 0}, {0, 10, 10, 60}, {1, 11, 11, 57}};
        for (int comb = 0; comb < 4; comb++) {
            CompositeDecoder x = new CompositeDecoder();
            x.set(2, comb);
            x.setSegment(3, 3, 200, 0, 0);
            x.decode();
            for (int way = 0; way < 4; way++) {
                Check.due("comb " + comb + ", way " + way, x.count(9 + way), counts[comb][way]);
            }
        }
        // Nothing is near anything: every second line is bright.
        CompositeDecoder x = new CompositeDecoder();
        for (int n = 0; n < 8; n += 2) {
            x.fill(n, 200, 0, 0);
        }
        x.decode();
        Check.due("all by the notch", x.count(9), 80);
    }

    /** "13 for the standard of the signal, 14 for the length of the text, 15 to 18 for the settings 0 to 3", as they are now. */
    private static void countsOfThePictureAndTheSettings() {
        CompositeDecoder x = new CompositeDecoder();
        for (int i = 1; i <= 61; i++) {
            x.type('k');
            Check.due("the length", x.count(14), Math.min(i, 60));
        }
        x.readBars(0);
        Check.due("a fault leaves the length", x.count(14), 60);
        x.clearText();
        Check.due("the length", x.count(14), 0);
        x.setStandard(1);
        Check.due("the standard", x.count(13), 1);
        x.set(3, 0);
        Check.due("that of the signal, not the one taken", x.count(13), 1);
        int[][] ends = {{1, 40}, {0, 100}, {0, 3}, {0, 2}};
        for (int what = 0; what < 4; what++) {
            for (int end = 0; end < 2; end++) {
                x.set(what, ends[what][end]);
                Check.due("the setting " + what, x.count(15 + what), ends[what][end]);
                x.set(what, ends[what][1] + 1);
                Check.due("the setting " + what + " behind a refused call", x.count(15 + what), ends[what][end]);
            }
        }
    }

    /** Combed by the notch, a dark picture without bursts: no line tells of another one. */
    private static CompositeDecoder notched() {
        CompositeDecoder x = new CompositeDecoder();
        x.set(2, 0);
        for (int n = 0; n < 8; n++) {
            x.setLine(n, 0, 0, 0, 0);
        }
        return x;
    }

    /** Two decodings, between which these segments alone change: by 87 each; what lies between two of them by 12. */
    private static CompositeDecoder changed(int[][] places) {
        CompositeDecoder x = notched();
        x.set(1, 20);
        x.decode();
        for (int[] place : places) {
            x.setSegment(place[0], place[1], 100, 0, 0);
        }
        x.decode();
        return x;
    }

    /** The segment (4, 5) and another one change. */
    private static void pair(String what, int line, int segment, int want) {
        motions(changed(new int[][] {{4, 5}, {line, segment}}), what, want, 4, 5, line, segment);
    }

    private static void motions(CompositeDecoder x, String what, int want, int line, int segment, int line2, int segment2) {
        Check.due(what, x.motion(line, segment), want);
        Check.due(what + ", the other one", x.motion(line2, segment2), want);
        Check.due(what + ": moving", x.count(7), want == MOVING ? 2 : 0);
        Check.due(what + ": noise", x.count(8), want == NOISE ? 2 : 0);
    }
}
