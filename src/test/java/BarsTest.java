/** Promises 7 to 9: the text and the bars. */
public final class BarsTest {
    private static final int UNKNOWN = CompositeDecoder.UNKNOWN;

    public static void main(String[] args) {
        type();
        letters();
        faults();
        Check.finish();
    }

    private static void type() {
        CompositeDecoder x = new CompositeDecoder();
        Check.due("clear an empty text", x.clearText(), 0);
        for (int i = 1; i <= 60; i++) {
            Check.due("type", x.type(i % 2 == 0 ? (char) 65535 : (char) 0), i);
        }
        Check.due("the 61st character", x.type('w'), CompositeDecoder.FULL);
        Check.due("the 62nd character", x.type('w'), CompositeDecoder.FULL);
        Check.due("the length", x.count(14), 60);
        Check.due("a text of other characters", x.readBars(0), -100);
        Check.due("clear", x.clearText(), 60);
        Check.due("the length", x.count(14), 0);
        Check.due("type again", x.type('w'), 1);
    }

    private static void letters() {
        CompositeDecoder x = typed("wycgmrbkwk");
        Check.due("ten letters", x.readBars(0), 10);
        bars(x, 0, "wycgmrbkwk");
        x = typed("w3yk5m");
        Check.due("digits", x.readBars(7), 4);
        bars(x, 7, "wwwykkkkkm");
        Check.due("the line above stays", x.fill(6, 0, 0, 0), 0);
        Check.due("the text stays", x.count(14), 6);
        Check.due("the text stays", x.readBars(2), 4);
        bars(x, 2, "wwwykkkkkm");
        x = typed("c9g1");
        Check.due("nine and one", x.readBars(3), 2);
        bars(x, 3, "cccccccccg");
        x = typed("b1b9");
        Check.due("one and nine", x.readBars(4), 2);
        bars(x, 4, "bbbbbbbbbb");
        x = typed("r1r1r1r1r1r1r1r1r1r1");
        Check.due("twenty characters", x.readBars(4), 10);
        bars(x, 4, "rrrrrrrrrr");
    }

    private static void faults() {
        fault("", 0);
        fault("w", 1);
        fault("w9", 2);
        fault("w4y5", 4);
        fault("1w", 0);
        fault("w0", 1);
        fault("w12", 2);
        fault("w2w22", 4);
        fault("W9", 0);
        fault("w9W", 2);
        fault("w 9", 1);
        fault("w9y2", 3);
        fault("w9y1k", 4);
        fault("w9yk", 3);
        fault("w9y1", -1);
        fault("w9y11", 4);
        fault("wwwwwwwwwww", 10);
        fault("wwwwwwwwww1", -1);
        fault("wwwwwwwwww2", 10);
        fault("w5y6x", 3);
        fault("w5y5x", 4);
        fault("w/", 1);
        fault("w:", 1);
        fault("w9\u0177", 2);
        fault("w\u0131", 1);
        CompositeDecoder x = typed("x");
        Check.due("line -1", x.readBars(-1), UNKNOWN);
        Check.due("line 8", x.readBars(8), UNKNOWN);
    }

    /** A fault leaves the line as it was; -1 stands for none. */
    private static void fault(String text, int at) {
        CompositeDecoder x = typed(text);
        x.fill(5, 7, 8, 9);
        int got = x.readBars(5);
        if (at >= 0) {
            Check.due("readBars with the text " + text, got, -100 - at);
            Check.due("a fault changes nothing", x.fill(5, 7, 8, 9), 0);
            Check.due("a fault leaves the text", x.count(14), text.length());
        } else if (got < 0) {
            Check.due("readBars with the text " + text, got, 0);
        }
    }

    private static CompositeDecoder typed(String text) {
        CompositeDecoder x = new CompositeDecoder();
        for (int i = 0; i < text.length(); i++) {
            Check.due("type", x.type(text.charAt(i)), i + 1);
        }
        return x;
    }

    /** Looks at the first four samples of each segment: with t = 0, 1, 2, 3 on even lines, 2, 3, 0, 1 on odd ones. */
    private static void bars(CompositeDecoder x, int line, String want) {
        for (int segment = 0; segment < 10; segment++) {
            int[] yuv = yuvOf(want.charAt(segment));
            int zero = 24 + 8 * segment + 2 * (line % 2);
            int two = 26 + 8 * segment - 2 * (line % 2);
            String what = "bar " + segment + " of " + want;
            Check.due(what, x.sample(line, zero), yuv[0] + yuv[2]);
            Check.due(what, x.sample(line, zero + 1), yuv[0] + yuv[1]);
            Check.due(what, x.sample(line, two), yuv[0] - yuv[2]);
            Check.due(what, x.sample(line, two + 1), yuv[0] - yuv[1]);
        }
    }

    private static int[] yuvOf(char letter) {
        switch (letter) {
            case 'w': return new int[] {180, 0, 0};
            case 'y': return new int[] {160, -50, 10};
            case 'c': return new int[] {140, 20, -50};
            case 'g': return new int[] {120, -40, -40};
            case 'm': return new int[] {80, 40, 40};
            case 'r': return new int[] {60, -20, 60};
            case 'b': return new int[] {30, 60, -10};
            default: return new int[] {10, 0, 0};
        }
    }
}
