/** All promises: runs of drawn calls, each answer held against PlainModel's. The draws are the same each time. */
public final class RandomRunsTest {
    private static final int RUNS = 1500;
    private static final int CALLS = 512;

    private final CompositeDecoder x = new CompositeDecoder();
    private final PlainModel plain = new PlainModel();
    private final java.util.Random draws;
    private final int run;
    /** How often a number is drawn from beyond its range, in hundredths. */
    private final int wrongness;

    private RandomRunsTest(int run) {
        this.run = run;
        this.draws = new java.util.Random(run);
        this.wrongness = run % 3 == 0 ? 12 : 1;
    }

    public static void main(String[] args) {
        for (int run = 0; run < RUNS; run++) {
            new RandomRunsTest(run).goThrough();
        }
        Check.finish();
    }

    private void goThrough() {
        if (run % 2 == 1) {
            same("setStandard(1)", x.setStandard(1), plain.setStandard(1));
        }
        if (run % 5 < 3) {
            paintAll();
        }
        int decodings = 0;
        for (int call = 0; call < CALLS; call++) {
            int kind = draws.nextInt(100);
            if (kind < 45) {
                change(kind);
            } else if (kind < 55) {
                same("decode()", x.decode(), plain.decode());
                decodings++;
                if (decodings % 8 == 1) {
                    compareAll();
                }
            } else {
                ask(draws.nextInt(10));
            }
        }
        compareAll();
    }

    /** Lines that are much alike, so that the combs have something to choose from. */
    private void paintAll() {
        int y = within(0, 200);
        int u = within(-60, 60);
        int v = within(-60, 60);
        for (int n = 0; n < 8; n++) {
            int near = Math.max(0, Math.min(200, y + draws.nextInt(31) - 15));
            same("fill(" + n + ", " + near + ")", x.fill(n, near, u, v), plain.fill(n, near, u, v));
        }
    }

    private void change(int kind) {
        int n = number(0, 7);
        if (kind < 10) {
            int i = number(0, 9), y = number(0, 200), u = number(-60, 60), v = number(-60, 60);
            same("setSegment", x.setSegment(n, i, y, u, v), plain.setSegment(n, i, y, u, v));
        } else if (kind < 13) {
            int y = number(0, 200), u = number(-60, 60), v = number(-60, 60);
            same("fill", x.fill(n, y, u, v), plain.fill(n, y, u, v));
        } else if (kind < 22) {
            int j = number(-4, 4), a = number(0, draws.nextBoolean() ? 40 : 8), p = number(0, 3), z = number(0, 9);
            if (draws.nextInt(3) > 0) {
                z = 0;
            }
            same("setLine", x.setLine(n, j, a, p, z), plain.setLine(n, j, a, p, z));
        } else if (kind < 25) {
            boolean gone = draws.nextBoolean();
            same("miss", x.miss(n, gone), plain.miss(n, gone));
        } else if (kind < 26) {
            int s = number(0, 1);
            same("setStandard", x.setStandard(s), plain.setStandard(s));
        } else if (kind < 37) {
            char c = character();
            same("type(" + c + ")", x.type(c), plain.type(c));
        } else if (kind < 41) {
            same("readBars", x.readBars(n), plain.readBars(n));
        } else if (kind < 42) {
            same("clearText", x.clearText(), plain.clearText());
        } else {
            int what = number(0, 3);
            int value = what == 0 ? number(1, 40) : what == 1 ? number(0, 100) : what == 2 ? number(0, 3) : number(0, 2);
            same("set(" + what + ", " + value + ")", x.set(what, value), plain.set(what, value));
        }
    }

    private void ask(int kind) {
        int n = number(0, 7);
        int i = number(0, 9);
        int k = number(0, 111);
        int what = number(0, kind == 1 ? 7 : 1);
        switch (kind) {
            case 0: same("sample(" + n + ", " + k + ")", x.sample(n, k), plain.sample(n, k)); break;
            case 1: same("line(" + n + ", " + what + ")", x.line(n, what), plain.line(n, what)); break;
            case 2: same("luma", x.luma(n, i), plain.luma(n, i)); break;
            case 3: same("combed", x.combed(n, i), plain.combed(n, i)); break;
            case 4: sameFloat("u", x.u(n, i), plain.u(n, i)); break;
            case 5: sameFloat("v", x.v(n, i), plain.v(n, i)); break;
            case 6: same("thousandths", x.thousandths(n, i, what), plain.thousandths(n, i, what)); break;
            case 7: sameFloat("reference", x.reference(n, what), plain.reference(n, what)); break;
            case 8: same("motion", x.motion(n, i), plain.motion(n, i)); break;
            default: {
                int c = number(0, 18);
                same("count(" + c + ")", x.count(c), plain.count(c));
            }
        }
    }

    /** Asking changes nothing, so all can be asked, far beyond the 512 calls too. */
    private void compareAll() {
        for (int c = -1; c < 20; c++) {
            same("count(" + c + ")", x.count(c), plain.count(c));
        }
        for (int n = -1; n < 9; n++) {
            for (int what = -1; what < 9; what++) {
                same("line(" + n + ", " + what + ")", x.line(n, what), plain.line(n, what));
                sameFloat("reference(" + n + ", " + what + ")", x.reference(n, what), plain.reference(n, what));
            }
            for (int k = -1; k < 113; k++) {
                same("sample(" + n + ", " + k + ")", x.sample(n, k), plain.sample(n, k));
            }
            for (int i = -1; i < 11; i++) {
                String at = "(" + n + ", " + i + ")";
                same("luma" + at, x.luma(n, i), plain.luma(n, i));
                same("combed" + at, x.combed(n, i), plain.combed(n, i));
                same("motion" + at, x.motion(n, i), plain.motion(n, i));
                sameFloat("u" + at, x.u(n, i), plain.u(n, i));
                sameFloat("v" + at, x.v(n, i), plain.v(n, i));
                for (int what = -1; what < 3; what++) {
                    same("thousandths" + at, x.thousandths(n, i, what), plain.thousandths(n, i, what));
                }
            }
        }
    }

    private int number(int low, int high) {
        if (draws.nextInt(100) >= wrongness) {
            return within(low, high);
        }
        switch (draws.nextInt(6)) {
            case 0: return low - 1;
            case 1: return high + 1;
            case 2: return Integer.MIN_VALUE;
            case 3: return Integer.MAX_VALUE;
            case 4: return low;
            default: return high;
        }
    }

    private int within(int low, int high) {
        return low + draws.nextInt(high - low + 1);
    }

    private char character() {
        String likely = "wycgmrbkwycgmrbk1234567891239";
        return draws.nextInt(100) < wrongness ? (char) draws.nextInt(65536) : likely.charAt(draws.nextInt(likely.length()));
    }

    private void same(String what, int got, int want) {
        Check.due("run " + run + ": " + what, got, want);
    }

    private void sameFloat(String what, float got, float want) {
        Check.dueFloat("run " + run + ": " + what, got, want);
    }
}
