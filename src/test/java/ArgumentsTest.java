/**
 * The ranges of all arguments, and the order of the checks: every combination of the least and the greatest value,
 * the next ones beyond them, and the ends of int, each on an object that has had no other call but the prepared ones.
 */
public final class ArgumentsTest {
    private static final int UNKNOWN = CompositeDecoder.UNKNOWN;
    private static final int BAD_VALUE = CompositeDecoder.BAD_VALUE;
    private static final int NONE = CompositeDecoder.NONE;
    private static final int[] LINE = {0, 7, UNKNOWN};
    private static final int[] SEGMENT = {0, 9, UNKNOWN};
    private static final int[] Y = {0, 200, BAD_VALUE};
    private static final int[] HUE = {-60, 60, BAD_VALUE};

    private interface Call {
        int on(CompositeDecoder x, int[] a);
    }

    private interface Due {
        int of(int[] a);
    }

    private interface FloatCall {
        float on(CompositeDecoder x, int[] a);
    }

    public static void main(String[] args) {
        picture();
        settings();
        decodingWithInts();
        decodingWithFloats();
        characters();
        Check.finish();
    }

    private static void picture() {
        grid("setSegment", 0, (x, a) -> x.setSegment(a[0], a[1], a[2], a[3], a[4]), a -> 0, LINE, SEGMENT, Y, HUE, HUE);
        grid("fill", 0, (x, a) -> x.fill(a[0], a[1], a[2], a[3]), a -> 10, LINE, Y, HUE, HUE);
        grid("setLine", 0, (x, a) -> x.setLine(a[0], a[1], a[2], a[3], a[4]), a -> 0,
            LINE, range(-4, 4), range(0, 40), range(0, 3), range(0, 9));
        grid("miss", 0, (x, a) -> x.miss(a[0], true), a -> 0, LINE);
        grid("miss not", 0, (x, a) -> x.miss(a[0], false), a -> 0, LINE);
        grid("setStandard", 0, (x, a) -> x.setStandard(a[0]), a -> 0, range(0, 1));
        grid("readBars, a text with a fault", 0, (x, a) -> x.readBars(a[0]), a -> -100, LINE);
        grid("readBars", 0, ArgumentsTest::typeAndRead, a -> 2, LINE);
        grid("sample", 0, (x, a) -> x.sample(a[0], a[1]), a -> 0, LINE, range(0, 111));
    }

    private static int typeAndRead(CompositeDecoder x, int[] a) {
        x.type('w');
        x.type('9');
        x.type('k');
        return x.readBars(a[0]);
    }

    private static void settings() {
        int[][] ranges = {{1, 40, 8}, {0, 100, 10}, {0, 3, 3}, {0, 2, 2}};
        for (int what = 0; what < 4; what++) {
            int setting = what;
            int[] r = ranges[what];
            grid("set " + what, 0, (x, a) -> x.set(setting, a[0]), a -> r[2], range(r[0], r[1]));
        }
        // What one setting may have, another one may not.
        grid("set", 0, (x, a) -> x.set(a[0], a[1]), a -> inRange(a[1], ranges[a[0]]) ? ranges[a[0]][2] : BAD_VALUE,
            new int[] {0, 3, UNKNOWN}, range(0, 100));
    }

    private static boolean inRange(int value, int[] range) {
        return value >= range[0] && value <= range[1];
    }

    private static void decodingWithInts() {
        for (int done = 0; done < 3; done++) {
            int times = done;
            grid("line", done, (x, a) -> x.line(a[0], a[1]),
                a -> times == 0 ? NONE : a[1] == 0 ? 8 : 32, LINE, range(0, 7));
            grid("luma", done, (x, a) -> x.luma(a[0], a[1]), a -> times == 0 ? NONE : 0, LINE, SEGMENT);
            grid("combed", done, (x, a) -> x.combed(a[0], a[1]),
                a -> times == 0 ? NONE : a[0] == 0 ? 2 : 1, LINE, SEGMENT);
            grid("thousandths", done, (x, a) -> x.thousandths(a[0], a[1], a[2]),
                a -> times == 0 ? NONE : 0, LINE, SEGMENT, range(0, 1));
            grid("motion", done, (x, a) -> x.motion(a[0], a[1]), a -> times < 2 ? NONE : 0, LINE, SEGMENT);
            grid("count", done, (x, a) -> x.count(a[0]), a -> a[0] == 0 ? times : 2, range(0, 18));
        }
    }

    /** A picture of which every number is another one than 0, so that a 0 can only be an error's. */
    private static CompositeDecoder colorful(int decodings) {
        CompositeDecoder x = new CompositeDecoder();
        x.setStandard(1);
        for (int n = 0; n < 8; n++) {
            x.fill(n, 120, 40, 10);
        }
        for (int i = 0; i < decodings; i++) {
            x.decode();
        }
        return x;
    }

    private static void decodingWithFloats() {
        for (int done = 0; done < 3; done++) {
            floatGrid("u", done, (x, a) -> x.u(a[0], a[1]), LINE, SEGMENT);
            floatGrid("v", done, (x, a) -> x.v(a[0], a[1]), LINE, SEGMENT);
            floatGrid("reference", done, (x, a) -> x.reference(a[0], a[1]), LINE, range(0, 1));
        }
    }

    private static void characters() {
        CompositeDecoder x = new CompositeDecoder();
        for (int c = 0; c <= Character.MAX_VALUE; c++) {
            if (c % 60 == 0) {
                x = new CompositeDecoder();
            }
            Check.due("type(" + c + ")", x.type((char) c), c % 60 + 1);
        }
    }

    private static int[] range(int low, int high) {
        return new int[] {low, high, BAD_VALUE};
    }

    /** The values to be tried for an argument. */
    private static int[] valuesOf(int[] row) {
        return new int[] {row[0], row[1], row[0] - 1, row[1] + 1, Integer.MIN_VALUE, Integer.MAX_VALUE};
    }

    /** UNKNOWN is checked ahead of BAD_VALUE, wherever the arguments stand; 0 if no argument is wrong. */
    private static int errorOf(int[] a, int[][] rows) {
        int error = 0;
        for (int i = 0; i < rows.length; i++) {
            if (a[i] < rows[i][0] || a[i] > rows[i][1]) {
                error = error == UNKNOWN ? UNKNOWN : rows[i][2];
            }
        }
        return error;
    }

    /** The next combination of places in the values, or false behind the last one. */
    private static boolean advance(int[] places, int[][] rows) {
        for (int i = 0; i < places.length; i++) {
            places[i]++;
            if (places[i] < valuesOf(rows[i]).length) {
                return true;
            }
            places[i] = 0;
        }
        return false;
    }

    private static int[] pick(int[] places, int[][] rows) {
        int[] a = new int[places.length];
        for (int i = 0; i < a.length; i++) {
            a[i] = valuesOf(rows[i])[places[i]];
        }
        return a;
    }

    private static void grid(String name, int decodings, Call call, Due due, int[]... rows) {
        int[] places = new int[rows.length];
        do {
            int[] a = pick(places, rows);
            CompositeDecoder x = new CompositeDecoder();
            for (int i = 0; i < decodings; i++) {
                x.decode();
            }
            int error = errorOf(a, rows);
            String what = name + java.util.Arrays.toString(a) + " behind " + decodings + " decodings";
            Check.due(what, call.on(x, a), error != 0 ? error : due.of(a));
        } while (advance(places, rows));
    }

    private static void floatGrid(String name, int decodings, FloatCall call, int[]... rows) {
        int[] places = new int[rows.length];
        do {
            int[] a = pick(places, rows);
            boolean isZero = call.on(colorful(decodings), a) == 0f;
            String what = name + java.util.Arrays.toString(a) + " behind " + decodings + " decodings is 0";
            Check.due(what, isZero ? 1 : 0, decodings == 0 || errorOf(a, rows) != 0 ? 1 : 0);
        } while (advance(places, rows));
    }
}
