/**
 * Holds objects against one another: two runs of calls must leave all that an object can tell the same.
 * Each group of questions gets objects of its own, so that none is asked more than 512 times.
 */
final class Twins {
    private static final int GROUPS = 7;

    interface Steps {
        void on(CompositeDecoder x);
    }

    private Twins() {
    }

    /** Some calls must leave everything as it was, what is told now and what is told by later calls. */
    static void changesNothing(String what, Steps before, Steps calls) {
        alike(what + ", now", join(before, calls), before);
        Steps onwards = join(before, Twins::later);
        alike(what + ", later", join(join(before, calls), Twins::later), onwards);
    }

    /** Two runs of calls must leave the same, now and later. */
    static void sameFromNowOn(String what, Steps one, Steps other) {
        alike(what + ", now", one, other);
        alike(what + ", later", join(one, Twins::later), join(other, Twins::later));
    }

    static Steps join(Steps first, Steps second) {
        return x -> {
            first.on(x);
            second.on(x);
        };
    }

    /** What is hidden at first comes out here: the text, the colors of the picture, and the lumas of the decoding before. */
    private static void later(CompositeDecoder x) {
        x.decode();
        int read = x.readBars(6);
        if (read < 0) {
            // The fault of the text must come out, too: it is told as Y's.
            x.setSegment(6, 9, -100 - read, 3, -4);
        }
        x.setSegment(2, 2, 150, -7, 9);
        x.decode();
    }

    private static void alike(String what, Steps one, Steps other) {
        for (int group = 0; group < GROUPS; group++) {
            CompositeDecoder x = new CompositeDecoder();
            CompositeDecoder y = new CompositeDecoder();
            one.on(x);
            other.on(y);
            ask(what, group, x, y);
        }
    }

    private static void ask(String what, int group, CompositeDecoder x, CompositeDecoder y) {
        switch (group) {
            case 0: askLines(what, x, y); break;
            case 1: askPlaces(what, x, y); break;
            case 2: askColors(what, x, y); break;
            default: askSamples(what, 2 * (group - 3), x, y);
        }
    }

    private static void askLines(String what, CompositeDecoder x, CompositeDecoder y) {
        for (int c = 0; c < 19; c++) {
            Check.due(what + ": count(" + c + ")", x.count(c), y.count(c));
        }
        for (int n = 0; n < 8; n++) {
            for (int w = 0; w < 8; w++) {
                Check.due(what + ": line(" + n + ", " + w + ")", x.line(n, w), y.line(n, w));
            }
            Check.dueFloat(what + ": reference(" + n + ", 0)", x.reference(n, 0), y.reference(n, 0));
            Check.dueFloat(what + ": reference(" + n + ", 1)", x.reference(n, 1), y.reference(n, 1));
        }
    }

    private static void askPlaces(String what, CompositeDecoder x, CompositeDecoder y) {
        for (int n = 0; n < 8; n++) {
            for (int i = 0; i < 10; i++) {
                String at = "(" + n + ", " + i + ")";
                Check.due(what + ": luma" + at, x.luma(n, i), y.luma(n, i));
                Check.due(what + ": combed" + at, x.combed(n, i), y.combed(n, i));
                Check.due(what + ": motion" + at, x.motion(n, i), y.motion(n, i));
            }
        }
    }

    private static void askColors(String what, CompositeDecoder x, CompositeDecoder y) {
        for (int n = 0; n < 8; n++) {
            for (int i = 0; i < 10; i++) {
                String at = "(" + n + ", " + i + ")";
                Check.dueFloat(what + ": u" + at, x.u(n, i), y.u(n, i));
                Check.dueFloat(what + ": v" + at, x.v(n, i), y.v(n, i));
                Check.due(what + ": thousandths of u" + at, x.thousandths(n, i, 0), y.thousandths(n, i, 0));
                Check.due(what + ": thousandths of v" + at, x.thousandths(n, i, 1), y.thousandths(n, i, 1));
            }
        }
    }

    private static void askSamples(String what, int first, CompositeDecoder x, CompositeDecoder y) {
        for (int n = first; n < first + 2; n++) {
            for (int k = 0; k < 112; k++) {
                Check.due(what + ": sample(" + n + ", " + k + ")", x.sample(n, k), y.sample(n, k));
            }
        }
    }
}
