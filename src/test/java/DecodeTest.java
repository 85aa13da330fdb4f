/** Promises 11 to 13: the settings, the flywheel, and the bursts. */
public final class DecodeTest {
    private static final int UNKNOWN = CompositeDecoder.UNKNOWN;
    private static final int BAD_VALUE = CompositeDecoder.BAD_VALUE;
    private static final int NONE = CompositeDecoder.NONE;
    private static final int PULSE = 0;
    private static final int START = 1;
    private static final int LOCKED = 2;
    private static final int P = 3;
    private static final int Q = 4;
    private static final int GOOD = 5;
    private static final int COLOR = 6;
    private static final int POSITION = 7;

    public static void main(String[] args) {
        settings();
        steadyLines();
        flywheelFollows();
        flywheelOutOfReach();
        flywheelWithoutPulses();
        flywheelLetsGo();
        flywheelBeginsAnew();
        weakPulses();
        falsePulses();
        burstSums();
        burstEdges();
        colorSwitch();
        wrongLines();
        Check.finish();
    }

    private static void settings() {
        CompositeDecoder x = new CompositeDecoder();
        int[][] ranges = {{1, 40, 8}, {0, 100, 10}, {0, 3, 3}, {0, 2, 2}};
        for (int what = 0; what < 4; what++) {
            int low = ranges[what][0];
            int high = ranges[what][1];
            Check.due("set to the lowest", x.set(what, low), ranges[what][2]);
            Check.due("set to the highest", x.set(what, high), low);
            Check.due("set below", x.set(what, low - 1), BAD_VALUE);
            Check.due("set above", x.set(what, high + 1), BAD_VALUE);
            Check.due("the setting " + what, x.count(15 + what), high);
        }
        Check.due("setting -1", x.set(-1, 1), UNKNOWN);
        Check.due("setting 4", x.set(4, -5), UNKNOWN);
        x.set(0, 8);
        x.decode();
        x.set(0, 40);
        Check.due("what was decoded stays", x.line(0, GOOD), 1);
        x.set(2, 0);
        Check.due("what was decoded stays", x.combed(0, 0), 2);
        x.decode();
        Check.due("the new threshold", x.line(0, GOOD), 0);
        Check.due("the new comb", x.combed(0, 0), 0);
    }

    private static void steadyLines() {
        CompositeDecoder x = new CompositeDecoder();
        Check.due("locked lines", x.decode(), 7);
        for (int n = 0; n < 8; n++) {
            row(x, n, PULSE, 8);
            row(x, n, START, 8);
            row(x, n, LOCKED, n == 0 ? 0 : 1);
            row(x, n, P, -80);
            row(x, n, Q, 0);
            row(x, n, GOOD, 1);
            row(x, n, COLOR, 1);
            row(x, n, POSITION, 32);
        }
        Check.due("each decoding begins anew", x.decode(), 7);
        row(x, 0, LOCKED, 0);
    }

    private static void flywheelFollows() {
        CompositeDecoder x = jittered(3, 3, 3, 0, 0, 0, -3, 0);
        Check.due("locked lines", x.decode(), 7);
        // d: 12, 6, 3, -10, -5, -3, -14 (out of reach), -2.
        rows(x, POSITION, 38, 41, 42, 37, 35, 34, 34, 33);
        rows(x, START, 11, 10, 11, 9, 9, 9, 9, 8);
        rows(x, LOCKED, 0, 1, 1, 1, 1, 1, 1, 1);
        rows(x, PULSE, 11, 11, 11, 8, 8, 8, 5, 8);
        x = jittered(-3, 0, 0, 0, 0, 0, 0, 0);
        x.decode();
        rows(x, POSITION, 26, 29, 30, 31, 31, 31, 31, 31);
        rows(x, START, 5, 7, 8, 8, 8, 8, 8, 8);
    }

    private static void flywheelOutOfReach() {
        CompositeDecoder x = jittered(4, 0, 4, 4, 0, 0, 0, 0);
        Check.due("locked lines", x.decode(), 2);
        // 48 and 32 are 16 apart, out of reach; one hit at the line 3 locks nothing, two at the lines 5 and 6 do.
        rows(x, POSITION, 48, 32, 48, 48, 32, 32, 32, 32);
        rows(x, START, 12, 8, 12, 12, 8, 8, 8, 8);
        rows(x, LOCKED, 0, 0, 0, 0, 0, 0, 1, 1);
    }

    private static void flywheelWithoutPulses() {
        CompositeDecoder x = new CompositeDecoder();
        for (int n = 0; n < 8; n++) {
            x.miss(n, true);
        }
        Check.due("locked lines", x.decode(), 0);
        rows(x, PULSE, NONE, NONE, NONE, NONE, NONE, NONE, NONE, NONE);
        rows(x, START, 8, 8, 8, 8, 8, 8, 8, 8);
        rows(x, LOCKED, 0, 0, 0, 0, 0, 0, 0, 0);
        rows(x, POSITION, 32, 32, 32, 32, 32, 32, 32, 32);
        x = jittered(3, 0, 0, 0, 0, 0, 0, 0);
        x.miss(1, true);
        x.decode();
        // Not locked and not found: the flywheel's 38 gives the start 10; the miss ends the hits.
        row(x, 1, START, 10);
        rows(x, LOCKED, 0, 0, 0, 1, 1, 1, 1, 1);
    }

    private static void flywheelLetsGo() {
        CompositeDecoder x = new CompositeDecoder();
        for (int n = 2; n < 6; n++) {
            x.miss(n, true);
        }
        Check.due("locked lines", x.decode(), 5);
        rows(x, LOCKED, 0, 1, 1, 1, 1, 0, 0, 1);
        x = jittered(0, 0, 4, 4, 4, 4, 4, 4);
        Check.due("locked lines", x.decode(), 4);
        // While it is locked it stays at 32; unlocked behind the fourth miss, it jumps with the fifth one.
        rows(x, POSITION, 32, 32, 32, 32, 32, 32, 48, 48);
        rows(x, START, 8, 8, 8, 8, 8, 12, 12, 12);
        rows(x, LOCKED, 0, 1, 1, 1, 1, 0, 0, 0);
        x = jittered(0, 0, 0, 0, 0, 0, 0, 0);
        x.miss(2, true);
        x.miss(3, true);
        x.miss(4, true);
        x.miss(6, true);
        x.miss(7, true);
        Check.due("a hit ends the misses", x.decode(), 7);
    }

    private static void flywheelBeginsAnew() {
        CompositeDecoder x = new CompositeDecoder();
        for (int n = 5; n < 8; n++) {
            x.miss(n, true);
        }
        Check.due("three misses at the end", x.decode(), 7);
        x.setLine(0, 4, 20, 0, 0);
        for (int n = 5; n < 8; n++) {
            x.miss(n, false);
        }
        // Were the misses of the decoding before kept, or the lock, or the position, the line 0 would show it.
        x.decode();
        rows(x, POSITION, 48, 32, 32, 32, 32, 32, 32, 32);
        rows(x, LOCKED, 0, 0, 0, 1, 1, 1, 1, 1);
        x = jittered(0, 0, 3, 4, 4, 4, 0, 0);
        x.decode();
        // d: 0, 0, 12, then 48 - 38 = 10, 5, 3, then 32 - 45 = -13 out of reach, twice.
        rows(x, POSITION, 32, 32, 38, 43, 45, 46, 46, 46);
        x = jittered(3, 3, -1, 0, 0, 0, 0, 0);
        x.decode();
        // d: 12, 6, then 28 - 41 = -13 out of reach, then 32 - 41 = -9.
        rows(x, POSITION, 38, 41, 41, 37, 35, 34, 33, 33);
    }

    /** The end of a turned burst and the begin of a colored segment can look like a pulse where there is none. */
    private static void falsePulses() {
        Check.due("four low samples at 20", falsePulse(-2, 1, 20, 60), 20);
        Check.due("not low enough", falsePulse(-2, 1, 19, 60), NONE);
        Check.due("low enough", falsePulse(-2, 1, 20, 20), 20);
        Check.due("not low enough", falsePulse(-2, 1, 20, 19), NONE);
        Check.due("four low samples at 18", falsePulse(-4, 3, 40, 60), 18);
        Check.due("four low samples at 21", falsePulse(-1, 0, 40, 60), NONE);
    }

    private static int falsePulse(int jitter, int phase, int amplitude, int color) {
        CompositeDecoder x = new CompositeDecoder();
        x.setStandard(1);
        x.setLine(0, jitter, amplitude, phase, 0);
        x.miss(0, true);
        x.fill(0, 0, 60, -color);
        x.decode();
        int pulse = x.line(0, PULSE);
        Check.due("the start", x.line(0, START), pulse == NONE ? 8 : pulse);
        Check.due("the position", x.line(0, POSITION), pulse == NONE ? 32 : 4 * pulse);
        x.fill(0, 0, 60, 0);
        x.decode();
        Check.due("three low samples", x.line(0, PULSE), NONE);
        return pulse;
    }

    private static void weakPulses() {
        CompositeDecoder x = new CompositeDecoder();
        x.setLine(0, 0, 0, 0, 9);
        x.decode();
        row(x, 0, PULSE, 8);
        row(x, 0, START, 8);
        x.setLine(0, -4, 20, 0, 0);
        x.decode();
        row(x, 0, PULSE, 4);
        row(x, 0, POSITION, 16);
        x.setLine(0, 4, 20, 0, 0);
        x.decode();
        row(x, 0, PULSE, 12);
    }

    private static void burstSums() {
        CompositeDecoder x = new CompositeDecoder();
        for (int n = 0; n < 4; n++) {
            x.setLine(n, 0, 30, n, 0);
        }
        x.decode();
        rows(x, P, -120, 0, 120, 0, -80, -80, -80, -80);
        rows(x, Q, 0, -120, 0, 120, 0, 0, 0, 0);
        x.setStandard(1);
        x.decode();
        rows(x, P, -120, 120, 120, -120, -80, -80, -80, -80);
        rows(x, Q, 120, -120, -120, 120, 80, -80, 80, -80);
        // The start 10 of the line 1 lies one sample ahead: its burst is read from the last sample of the pulse on.
        x = jittered(3, 3, 0, 0, 0, 0, 0, 0);
        x.fill(1, 100, 0, 0);
        x.decode();
        row(x, 1, START, 10);
        row(x, 1, P, -80);
        row(x, 1, Q, -40);
    }

    private static void burstEdges() {
        CompositeDecoder x = new CompositeDecoder();
        x.setLine(3, 0, 8, 0, 0);
        x.setLine(5, 0, 7, 0, 0);
        x.decode();
        rows(x, GOOD, 1, 1, 1, 1, 1, 0, 1, 1);
        x.set(0, 9);
        x.decode();
        rows(x, GOOD, 1, 1, 1, 0, 1, 0, 1, 1);
        x.set(0, 1);
        x.setLine(5, 0, 0, 0, 0);
        x.decode();
        rows(x, GOOD, 1, 1, 1, 1, 1, 0, 1, 1);
        // |P| and |Q| are added: 4 + 4 times 4 with the standard 1.
        x.setStandard(1);
        x.set(0, 8);
        x.setLine(2, 0, 4, 0, 0);
        x.setLine(4, 0, 3, 0, 0);
        x.decode();
        rows(x, GOOD, 1, 1, 1, 1, 0, 0, 1, 1);
    }

    private static void colorSwitch() {
        CompositeDecoder x = new CompositeDecoder();
        silence(x, 0);
        x.decode();
        rows(x, COLOR, 1, 1, 1, 1, 1, 1, 1, 1);
        silence(x, 2);
        silence(x, 3);
        x.decode();
        rows(x, COLOR, 1, 1, 1, 0, 0, 1, 1, 1);
        silence(x, 5);
        x.decode();
        rows(x, COLOR, 1, 1, 1, 0, 0, 0, 0, 1);
        silence(x, 1);
        silence(x, 7);
        x.decode();
        rows(x, GOOD, 0, 0, 0, 0, 1, 0, 1, 0);
        rows(x, COLOR, 1, 0, 0, 0, 0, 0, 0, 0);
        Check.due("lines with color", x.count(4), 1);
    }

    private static void wrongLines() {
        CompositeDecoder x = new CompositeDecoder();
        Check.due("line -1", x.line(-1, 8), UNKNOWN);
        Check.due("line 8", x.line(8, 0), UNKNOWN);
        Check.due("BAD_VALUE ahead of NONE", x.line(0, 8), BAD_VALUE);
        Check.due("what -1", x.line(0, -1), BAD_VALUE);
        Check.due("before the first decoding", x.line(7, 7), NONE);
        x.decode();
        Check.due("line -1", x.line(-1, 0), UNKNOWN);
        Check.due("what 8", x.line(7, 8), BAD_VALUE);
        Check.due("behind it", x.line(7, 7), 32);
    }

    private static CompositeDecoder jittered(int... jitters) {
        CompositeDecoder x = new CompositeDecoder();
        for (int n = 0; n < 8; n++) {
            x.setLine(n, jitters[n], 20, 0, 0);
        }
        return x;
    }

    private static void silence(CompositeDecoder x, int line) {
        x.setLine(line, 0, 0, 0, 0);
    }

    private static void row(CompositeDecoder x, int n, int what, int want) {
        Check.due("line(" + n + ", " + what + ")", x.line(n, what), want);
    }

    private static void rows(CompositeDecoder x, int what, int... want) {
        for (int n = 0; n < 8; n++) {
            row(x, n, what, want[n]);
        }
    }
}
