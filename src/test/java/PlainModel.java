/**
 * The document once more, written down sentence by sentence and without any thought for speed:
 * what is asked of the latest decoding is kept as plain tables. RandomRunsTest holds the class against it.
 */
final class PlainModel {
    static final int UNKNOWN = -100001;
    static final int BAD_VALUE = -100002;
    static final int FULL = -100003;
    static final int NONE = -100004;
    private static final int[] A = {0, 1, 0, -1};
    private static final int[] B = {1, 0, -1, 0};
    private static final int[][] RANGES = {{1, 40}, {0, 100}, {0, 3}, {0, 2}};

    private final int[][][] yuv = new int[8][10][3];
    private final int[][] sent = new int[8][]; // jitter, amplitude, phase, noise
    private final boolean[] missing = new boolean[8];
    private int standard;
    private final StringBuilder text = new StringBuilder();
    private final int[] settings = {8, 10, 3, 2};
    private int decodings;
    private int[][] told; // the eight numbers of line()
    private int guessed;
    private int turned;
    private int steady;
    private float[][] refs;
    private int[][] lumas;
    private int[][] ways;
    private float[][][] raw;
    private float[][][] colors;
    private int[][] motions;

    PlainModel() {
        for (int n = 0; n < 8; n++) {
            sent[n] = new int[] {0, 20, 0, 0};
        }
    }

    private static boolean out(int x, int low, int high) {
        return x < low || x > high;
    }

    int setSegment(int n, int i, int y, int u, int v) {
        if (out(n, 0, 7) || out(i, 0, 9)) return UNKNOWN;
        if (out(y, 0, 200) || out(u, -60, 60) || out(v, -60, 60)) return BAD_VALUE;
        int old = yuv[n][i][0];
        yuv[n][i] = new int[] {y, u, v};
        return old;
    }

    int fill(int n, int y, int u, int v) {
        if (out(n, 0, 7)) return UNKNOWN;
        if (out(y, 0, 200) || out(u, -60, 60) || out(v, -60, 60)) return BAD_VALUE;
        int others = 0;
        for (int i = 0; i < 10; i++) {
            if (!java.util.Arrays.equals(yuv[n][i], new int[] {y, u, v})) others++;
            yuv[n][i] = new int[] {y, u, v};
        }
        return others;
    }

    int setLine(int n, int jitter, int amplitude, int phase, int noise) {
        if (out(n, 0, 7)) return UNKNOWN;
        if (out(jitter, -4, 4) || out(amplitude, 0, 40) || out(phase, 0, 3) || out(noise, 0, 9)) return BAD_VALUE;
        int old = sent[n][0];
        sent[n] = new int[] {jitter, amplitude, phase, noise};
        missing[n] = false;
        return old;
    }

    int miss(int n, boolean gone) {
        if (out(n, 0, 7)) return UNKNOWN;
        boolean old = missing[n];
        missing[n] = gone;
        return old ? 1 : 0;
    }

    int setStandard(int s) {
        if (out(s, 0, 1)) return BAD_VALUE;
        int old = standard;
        standard = s;
        return old;
    }

    int type(char c) {
        if (text.length() == 60) return FULL;
        text.append(c);
        return text.length();
    }

    int clearText() {
        int old = text.length();
        text.setLength(0);
        return old;
    }

    int readBars(int n) {
        if (out(n, 0, 7)) return UNKNOWN;
        String letters = "wycgmrbk";
        int[][] bars = {{180, 0, 0}, {160, -50, 10}, {140, 20, -50}, {120, -40, -40},
            {80, 40, 40}, {60, -20, 60}, {30, 60, -10}, {10, 0, 0}};
        StringBuilder wide = new StringBuilder();
        int count = 0;
        for (int i = 0; i < text.length(); i++) {
            char c = text.charAt(i);
            boolean behindLetter = i > 0 && letters.indexOf(text.charAt(i - 1)) >= 0;
            if (letters.indexOf(c) >= 0 && wide.length() < 10) {
                wide.append(c);
                count++;
            } else if (behindLetter && c >= '1' && c <= '9' && wide.length() - 1 + (c - '0') <= 10) {
                wide.append(String.valueOf(text.charAt(i - 1)).repeat(c - '1'));
            } else {
                return -100 - i;
            }
        }
        if (wide.length() < 10) return -100 - text.length();
        for (int i = 0; i < 10; i++) {
            yuv[n][i] = bars[letters.indexOf(wide.charAt(i))].clone();
        }
        return count;
    }

    private int x(int n, int k) {
        if (out(k, 0, 111)) return 0;
        int t = Math.floorMod(k + 2 * n + sent[n][2], 4);
        int z = standard == 1 && n % 2 == 1 ? -1 : 1;
        int h = k - 8 - sent[n][0];
        int amplitude = sent[n][1];
        int sum = sent[n][3] * ((7 * k + 13 * n) % 5 - 2);
        if (h >= 0 && h <= 7 && !missing[n]) sum += -40;
        if (h >= 8 && h <= 15) {
            sum += -amplitude * A[t];
            if (standard == 1) sum += z * amplitude * B[t];
        }
        if (h >= 16 && h <= 95) {
            int[] s = yuv[n][(h - 16) / 8];
            sum += s[0] + s[1] * A[t] + z * s[2] * B[t];
        }
        return sum;
    }

    int sample(int n, int k) {
        if (out(n, 0, 7)) return UNKNOWN;
        if (out(k, 0, 111)) return BAD_VALUE;
        return x(n, k);
    }

    int set(int what, int value) {
        if (out(what, 0, 3)) return UNKNOWN;
        if (out(value, RANGES[what][0], RANGES[what][1])) return BAD_VALUE;
        int old = settings[what];
        settings[what] = value;
        return old;
    }

    private int pulse(int n) {
        for (int k = 0; k <= 20; k++) {
            if (x(n, k) <= -20 && x(n, k + 1) <= -20 && x(n, k + 2) <= -20 && x(n, k + 3) <= -20) return k;
        }
        return NONE;
    }

    int decode() {
        int[][] before = lumas;
        decodings++;
        pulses();
        bursts();
        int taken = settings[3] == 2 ? guessed : settings[3];
        references(taken);
        combs(taken);
        hues(taken);
        if (before != null) compare(before);
        int locked = 0;
        for (int n = 0; n < 8; n++) locked += told[n][2];
        return locked;
    }

    private void pulses() {
        told = new int[8][8];
        int f = 32;
        int hits = 0;
        int misses = 0;
        boolean locked = false;
        for (int n = 0; n < 8; n++) {
            int k = pulse(n);
            boolean found = k != NONE;
            if (found && Math.abs(4 * k - f) <= 12) {
                f += (4 * k - f) / 2;
                hits++;
                misses = 0;
            } else {
                misses++;
                hits = 0;
                if (found && !locked) f = 4 * k;
            }
            if (hits >= 2) locked = true;
            if (misses >= 4) locked = false;
            told[n][0] = k;
            told[n][1] = locked || !found ? Math.floorDiv(f + 2, 4) : k;
            told[n][2] = locked ? 1 : 0;
            told[n][7] = f;
        }
    }

    private void bursts() {
        int threshold = settings[0];
        for (int n = 0; n < 8; n++) {
            for (int k = told[n][1] + 8; k <= told[n][1] + 15; k++) {
                told[n][3] += x(n, k) * A[Math.floorMod(k + 2 * n, 4)];
                told[n][4] += x(n, k) * B[Math.floorMod(k + 2 * n, 4)];
            }
            told[n][5] = Math.abs(told[n][3]) + Math.abs(told[n][4]) >= 4 * threshold ? 1 : 0;
        }
        turned = 0;
        steady = 0;
        told[0][6] = 1;
        for (int n = 1; n < 8; n++) {
            int both = told[n - 1][5] + told[n][5];
            told[n][6] = both == 2 ? 1 : both == 0 ? 0 : told[n - 1][6];
            if (both == 2) {
                int q = told[n - 1][4];
                int r = told[n][4];
                boolean opposite = q < 0 && r > 0 || q > 0 && r < 0;
                if (opposite && Math.abs(q) >= threshold && Math.abs(r) >= threshold) turned++;
                else steady++;
            }
        }
        guessed = turned > steady ? 1 : 0;
    }

    private void references(int taken) {
        refs = new float[8][2];
        boolean any = false;
        for (int n = 0; n < 8; n++) {
            for (int r = 0; r < 2; r++) {
                float aim = -told[n][3 + r];
                if (taken == 1 && n > 0) aim = ((float) (-(told[n][3 + r] + told[n - 1][3 + r]))) / 2;
                float old = n == 0 ? 0f : refs[n - 1][r];
                refs[n][r] = told[n][5] == 0 ? old : any ? old + (aim - old) * 0.25f : aim;
            }
            any = any || told[n][5] == 1;
        }
    }

    /** The sample of a line at a distance from its start. */
    private int d(int n, int distance) {
        return x(n, told[n][1] + distance);
    }

    private int eight(int n, int i) {
        int sum = 0;
        for (int k = 0; k < 8; k++) sum += d(n, 16 + 8 * i + k);
        return sum;
    }

    private boolean near(int n, int other, int i) {
        return other >= 0 && other <= 7 && Math.abs(eight(other, i) - eight(n, i)) <= 8 * settings[1];
    }

    private int way(int n, int i, int taken) {
        if (taken == 1 || settings[2] == 0) return 0;
        if (settings[2] == 1) return n == 0 ? 2 : 1;
        if (settings[2] == 2) return n == 0 ? 2 : n == 7 ? 1 : 3;
        boolean above = near(n, n - 1, i);
        boolean below = near(n, n + 1, i);
        return above && below ? 3 : above ? 1 : below ? 2 : 0;
    }

    private void combs(int taken) {
        lumas = new int[8][10];
        ways = new int[8][10];
        raw = new float[8][10][2];
        for (int n = 0; n < 8; n++) {
            for (int i = 0; i < 10; i++) {
                ways[n][i] = way(n, i, taken);
                int all = 0;
                int iSum = 0;
                int kSum = 0;
                for (int j = 16 + 8 * i; j <= 23 + 8 * i; j++) {
                    int c = 0;
                    if (ways[n][i] == 0) c = 2 * d(n, j) - d(n, j - 2) - d(n, j + 2);
                    if (ways[n][i] == 1) c = 2 * (d(n, j) - d(n - 1, j));
                    if (ways[n][i] == 2) c = 2 * (d(n, j) - d(n + 1, j));
                    if (ways[n][i] == 3) c = 2 * d(n, j) - d(n - 1, j) - d(n + 1, j);
                    int t = Math.floorMod(told[n][1] + j + 2 * n, 4);
                    all += c;
                    iSum += c * A[t];
                    kSum += c * B[t];
                }
                lumas[n][i] = Math.floorDiv(4 * eight(n, i) - all, 32);
                raw(n, i, iSum, kSum, taken);
            }
        }
    }

    private void raw(int n, int i, int iSum, int kSum, int taken) {
        float e = iSum / 16.0f;
        float f = kSum / 16.0f;
        float rp = refs[n][0];
        float rq = refs[n][1];
        float g = rp * rp + rq * rq;
        if (told[n][6] == 0 || g == 0) return;
        raw[n][i][0] = (e * rp + f * rq) * 80 / g;
        raw[n][i][1] = (f * rp - e * rq) * 80 / g;
        if (taken == 1 && n % 2 == 1) raw[n][i][1] = 0 - raw[n][i][1];
    }

    private void hues(int taken) {
        colors = new float[8][10][2];
        for (int n = 0; n < 8; n++) {
            for (int i = 0; i < 10; i++) {
                for (int c = 0; c < 2; c++) {
                    float mine = raw[n][i][c];
                    colors[n][i][c] = taken == 0 || n == 0 ? mine : (mine + raw[n - 1][i][c]) * 0.5f;
                }
            }
        }
    }

    private void compare(int[][] before) {
        motions = new int[8][10];
        for (int n = 0; n < 8; n++) {
            for (int i = 0; i < 10; i++) {
                if (!changed(before, n, i)) continue;
                boolean beside = changed(before, n, i - 1) || changed(before, n, i + 1)
                    || changed(before, n - 1, i) || changed(before, n + 1, i);
                motions[n][i] = beside ? 2 : 1;
            }
        }
    }

    private boolean changed(int[][] before, int n, int i) {
        if (out(n, 0, 7) || out(i, 0, 9)) return false;
        return Math.abs(lumas[n][i] - before[n][i]) > settings[1];
    }

    int line(int n, int what) {
        if (out(n, 0, 7)) return UNKNOWN;
        if (out(what, 0, 7)) return BAD_VALUE;
        return decodings == 0 ? NONE : told[n][what];
    }

    int luma(int n, int i) {
        if (out(n, 0, 7) || out(i, 0, 9)) return UNKNOWN;
        return decodings == 0 ? NONE : lumas[n][i];
    }

    int combed(int n, int i) {
        if (out(n, 0, 7) || out(i, 0, 9)) return UNKNOWN;
        return decodings == 0 ? NONE : ways[n][i];
    }

    float u(int n, int i) {
        return out(n, 0, 7) || out(i, 0, 9) || decodings == 0 ? 0f : colors[n][i][0];
    }

    float v(int n, int i) {
        return out(n, 0, 7) || out(i, 0, 9) || decodings == 0 ? 0f : colors[n][i][1];
    }

    int thousandths(int n, int i, int what) {
        if (out(n, 0, 7) || out(i, 0, 9)) return UNKNOWN;
        if (out(what, 0, 1)) return BAD_VALUE;
        if (decodings == 0) return NONE;
        float thousandfold = colors[n][i][what] * 1000;
        double cut = thousandfold < 0 ? Math.ceil(thousandfold) : Math.floor(thousandfold);
        return (int) Math.max(Integer.MIN_VALUE, Math.min(Integer.MAX_VALUE, cut));
    }

    float reference(int n, int what) {
        return out(n, 0, 7) || out(what, 0, 1) || decodings == 0 ? 0f : refs[n][what];
    }

    int motion(int n, int i) {
        if (out(n, 0, 7) || out(i, 0, 9)) return UNKNOWN;
        return decodings < 2 ? NONE : motions[n][i];
    }

    int count(int what) {
        if (out(what, 0, 18)) return BAD_VALUE;
        if (what == 0) return decodings;
        if (what == 13) return standard;
        if (what == 14) return text.length();
        if (what >= 15) return settings[what - 15];
        if (decodings < (what == 7 || what == 8 ? 2 : 1)) return NONE;
        if (what == 1) return guessed;
        if (what == 2) return turned;
        if (what == 3) return steady;
        int sum = 0;
        for (int n = 0; n < 8; n++) {
            if (what == 4) sum += told[n][6];
            for (int i = 0; i < 10; i++) {
                int difference = Math.abs(lumas[n][i] - yuv[n][i][0]);
                if (what == 5 && difference != 0) sum++;
                if (what == 6) sum += difference;
                if (what == 7 && motions[n][i] == 2) sum++;
                if (what == 8 && motions[n][i] == 1) sum++;
                if (what >= 9 && ways[n][i] == what - 9) sum++;
            }
        }
        return sum;
    }
}
