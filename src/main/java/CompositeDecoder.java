/** A decoder for a composite picture signal; README.md and the document's promises tell what it does. */
public final class CompositeDecoder {
    /** There is no such line, segment or setting. */
    public static final int UNKNOWN = -100001;
    /** Another argument is out of range. */
    public static final int BAD_VALUE = -100002;
    /** There is no more room in the text. */
    public static final int FULL = -100003;
    /** There is no such thing; not an error. */
    public static final int NONE = -100004;

    private static final int LINES = 8;
    private static final int SEGMENTS = 10;
    private static final int PLACES = 80;
    private static final int SAMPLES = 112;
    /** How many samples lie in a pulse, in a burst and in a segment alike. */
    private static final int SPAN = 8;
    private static final int BURST_DISTANCE = 8;
    private static final int PICTURE_DISTANCE = 16;
    private static final int TURNED = 1;
    /** What a line has instead of the place of its pulse; no place is negative. */
    private static final int NOT_FOUND = -1;
    /** a(t) of the document. */
    private static final int[] SINE = {0, 1, 0, -1};
    /** b(t) of the document. */
    private static final int[] COSINE = {1, 0, -1, 0};

    private final Picture picture = new Picture();
    private final BarText text = new BarText();
    private final Settings settings = new Settings();
    private final Signal signal = new Signal();
    private final LineFinder finder = new LineFinder();
    private final Bursts bursts = new Bursts();
    private final PhaseReference phases = new PhaseReference();
    private final Combs combs = new Combs();
    private final Colors colors = new Colors();
    private final Movement movement = new Movement();
    private int decodings;

    /** Creates a dark picture, and a decoder that has not decoded yet. */
    public CompositeDecoder() {
    }

    // ---- the picture

    /** Sets a segment. @return the previous Y; UNKNOWN; BAD_VALUE */
    public int setSegment(int line, int segment, int y, int u, int v) {
        if (!isPlace(line, segment)) {
            return UNKNOWN;
        }
        if (!isPaint(y, u, v)) {
            return BAD_VALUE;
        }
        int place = placeOf(line, segment);
        int previous = picture.lumas[place];
        picture.paint(place, y, u, v);
        return previous;
    }

    /** Sets all segments of a line. @return the number of segments that become other ones; UNKNOWN; BAD_VALUE */
    public int fill(int line, int y, int u, int v) {
        if (!isLine(line)) {
            return UNKNOWN;
        }
        if (!isPaint(y, u, v)) {
            return BAD_VALUE;
        }
        int changes = 0;
        for (int segment = 0; segment < SEGMENTS; segment++) {
            if (picture.paint(placeOf(line, segment), y, u, v)) {
                changes++;
            }
        }
        return changes;
    }

    /** Sets a line; its pulse is not missing. @return the previous jitter; UNKNOWN; BAD_VALUE */
    public int setLine(int line, int jitter, int amplitude, int phase, int noise) {
        if (!isLine(line)) {
            return UNKNOWN;
        }
        if (!isWithin(jitter, -4, 4) || !isWithin(amplitude, 0, 40) || !isWithin(phase, 0, 3) || !isWithin(noise, 0, 9)) {
            return BAD_VALUE;
        }
        int previous = picture.jitters[line];
        picture.jitters[line] = jitter;
        picture.amplitudes[line] = amplitude;
        picture.phases[line] = phase;
        picture.noises[line] = noise;
        picture.missing[line] = false;
        return previous;
    }

    /** Makes the pulse of a line missing, or there again. @return 1 if it was missing before, otherwise 0; UNKNOWN */
    public int miss(int line, boolean missing) {
        if (!isLine(line)) {
            return UNKNOWN;
        }
        int previous = oneIf(picture.missing[line]);
        picture.missing[line] = missing;
        return previous;
    }

    /** Sets the standard of the signal. @return the previous one; BAD_VALUE */
    public int setStandard(int standard) {
        if (!isWithin(standard, 0, 1)) {
            return BAD_VALUE;
        }
        int previous = picture.standard;
        picture.standard = standard;
        return previous;
    }

    /** Appends a character to the text. @return the length of the text then; FULL if it has 60 characters */
    public int type(char character) {
        return text.append(character) ? text.used : FULL;
    }

    /** Empties the text. @return the length that it had */
    public int clearText() {
        int previous = text.used;
        text.used = 0;
        return previous;
    }

    /** Sets the segments of a line by the text. @return the number of letters; UNKNOWN; -100 minus the fault of the text */
    public int readBars(int line) {
        if (!isLine(line)) {
            return UNKNOWN;
        }
        int fault = text.parse();
        if (fault != BarText.NO_FAULT) {
            return -100 - fault;
        }
        for (int segment = 0; segment < SEGMENTS; segment++) {
            text.paintBar(picture, placeOf(line, segment), segment);
        }
        return text.letters;
    }

    /** @return the sample; UNKNOWN; BAD_VALUE */
    public int sample(int line, int k) {
        if (!isLine(line)) {
            return UNKNOWN;
        }
        if (!isWithin(k, 0, SAMPLES - 1)) {
            return BAD_VALUE;
        }
        return picture.sampleAt(line, k);
    }

    // ---- decoding

    /** Sets a setting of the decoder. @return the previous value; UNKNOWN; BAD_VALUE */
    public int set(int what, int value) {
        if (!isWithin(what, 0, Settings.LAST)) {
            return UNKNOWN;
        }
        if (!settings.allows(what, value)) {
            return BAD_VALUE;
        }
        int previous = settings.values[what];
        settings.values[what] = value;
        return previous;
    }

    /** Decodes the signal. @return the number of lines at which the flywheel is locked (behind their pulses) */
    public int decode() {
        signal.sendFrom(picture);
        finder.find(signal);
        bursts.measure(signal, finder.starts, settings.threshold());
        int standard = settings.standardTaken(bursts.guessedStandard());
        phases.follow(bursts, standard);
        combs.separate(signal, finder.starts, settings, standard);
        colors.turn(combs, bursts, phases, standard);
        movement.watch(combs.lumas, settings.limit(), decodings > 0);
        decodings++;
        return tally(finder.locked);
    }

    /** Tells of a line in the latest decoding. @return the number; UNKNOWN; BAD_VALUE; NONE before the first decoding */
    public int line(int line, int what) {
        if (!isLine(line)) {
            return UNKNOWN;
        }
        if (!isWithin(what, 0, 7)) {
            return BAD_VALUE;
        }
        if (decodings == 0) {
            return NONE;
        }
        switch (what) {
            case 0:
                return finder.pulses[line] == NOT_FOUND ? NONE : finder.pulses[line];
            case 1:
                return finder.starts[line];
            case 2:
                return oneIf(finder.locked[line]);
            case 3:
                return bursts.sines[line];
            case 4:
                return bursts.cosines[line];
            case 5:
                return oneIf(bursts.good[line]);
            case 6:
                return oneIf(bursts.colorOn[line]);
            default:
                return finder.positions[line];
        }
    }

    /** @return its luma in the latest decoding; UNKNOWN; NONE before the first one */
    public int luma(int line, int segment) {
        if (!isPlace(line, segment)) {
            return UNKNOWN;
        }
        return decodings == 0 ? NONE : combs.lumas[placeOf(line, segment)];
    }

    /** @return how it was combed: 0 notch, 1 above, 2 below, 3 both; UNKNOWN; NONE before the first decoding */
    public int combed(int line, int segment) {
        if (!isPlace(line, segment)) {
            return UNKNOWN;
        }
        return decodings == 0 ? NONE : combs.ways[placeOf(line, segment)];
    }

    /** @return the u of its color in the latest decoding */
    public float u(int line, int segment) {
        return isPlace(line, segment) ? colors.us[placeOf(line, segment)] : 0f;
    }

    /** @return the v of its color in the latest decoding */
    public float v(int line, int segment) {
        return isPlace(line, segment) ? colors.vs[placeOf(line, segment)] : 0f;
    }

    /** @return u or v, times 1000, cut off; UNKNOWN; BAD_VALUE; NONE before the first decoding */
    public int thousandths(int line, int segment, int what) {
        if (!isPlace(line, segment)) {
            return UNKNOWN;
        }
        if (!isWithin(what, 0, 1)) {
            return BAD_VALUE;
        }
        if (decodings == 0) {
            return NONE;
        }
        int place = placeOf(line, segment);
        float color = what == 0 ? colors.us[place] : colors.vs[place];
        return (int) (color * 1000f);
    }

    /** @return the number of the reference at the line in the latest decoding */
    public float reference(int line, int what) {
        if (!isLine(line) || !isWithin(what, 0, 1)) {
            return 0f;
        }
        return what == 0 ? phases.sines[line] : phases.cosines[line];
    }

    /** @return 0 if it has not changed, 1 if it is noise, 2 if it is moving; UNKNOWN; NONE before the second decoding */
    public int motion(int line, int segment) {
        if (!isPlace(line, segment)) {
            return UNKNOWN;
        }
        return decodings < 2 ? NONE : movement.kinds[placeOf(line, segment)];
    }

    /** @return the number; BAD_VALUE; NONE where there is no decoding, or no second one, that it could tell of */
    public int count(int what) {
        if (!isWithin(what, 0, 18)) {
            return BAD_VALUE;
        }
        if (what == 0) {
            return decodings;
        }
        if (what > 12) {
            return countOfNow(what);
        }
        int needed = what == 7 || what == 8 ? 2 : 1;
        return decodings < needed ? NONE : countOfDecoding(what);
    }

    /** The counts 13 to 18, which need no decoding. */
    private int countOfNow(int what) {
        if (what == 13) {
            return picture.standard;
        }
        if (what == 14) {
            return text.used;
        }
        int setting = what - 15;
        return isWithin(setting, 0, Settings.LAST) ? settings.values[setting] : BAD_VALUE;
    }

    /** The counts 1 to 12, of the latest decoding. */
    private int countOfDecoding(int what) {
        switch (what) {
            case 1:
                return bursts.guessedStandard();
            case 2:
                return bursts.turnedPairs;
            case 3:
                return bursts.steadyPairs;
            case 4:
                return tally(bursts.colorOn);
            case 5:
                return wrongLumas();
            case 6:
                return lumaDifferences();
            case 7:
                return tally(movement.kinds, Movement.MOVING);
            case 8:
                return tally(movement.kinds, Movement.NOISE);
            default:
                return tally(combs.ways, what - 9);
        }
    }

    private int wrongLumas() {
        int wrong = 0;
        for (int place = 0; place < PLACES; place++) {
            wrong += oneIf(combs.lumas[place] != picture.lumas[place]);
        }
        return wrong;
    }

    private int lumaDifferences() {
        int sum = 0;
        for (int place = 0; place < PLACES; place++) {
            sum += Math.abs(combs.lumas[place] - picture.lumas[place]);
        }
        return sum;
    }

    private static int tally(boolean[] marks) {
        int marked = 0;
        for (boolean mark : marks) {
            marked += oneIf(mark);
        }
        return marked;
    }

    private static int tally(int[] kinds, int kind) {
        int alike = 0;
        for (int one : kinds) {
            alike += oneIf(one == kind);
        }
        return alike;
    }

    private static int oneIf(boolean mark) {
        return mark ? 1 : 0;
    }

    private static boolean isWithin(int value, int lowest, int highest) {
        return value >= lowest && value <= highest;
    }

    private static boolean isLine(int line) {
        return isWithin(line, 0, LINES - 1);
    }

    private static boolean isPlace(int line, int segment) {
        return isLine(line) && isWithin(segment, 0, SEGMENTS - 1);
    }

    private static boolean isPaint(int y, int u, int v) {
        return isWithin(y, 0, 200) && isWithin(u, -60, 60) && isWithin(v, -60, 60);
    }

    private static int placeOf(int line, int segment) {
        return line * SEGMENTS + segment;
    }

    /** Where the carrier stands at a sample of a line, 0 to 3. */
    private static int turnAt(int line, int k) {
        return (k + 2 * line) & 3;
    }

    /** What is to be sent: segments, how each line is sent, and the standard. */
    private static final class Picture {
        private static final int PULSE_LEVEL = -40;
        private static final int FIRST_AMPLITUDE = 20;

        private final int[] lumas = new int[PLACES];
        private final int[] us = new int[PLACES];
        private final int[] vs = new int[PLACES];
        private final int[] jitters = new int[LINES];
        private final int[] amplitudes = new int[LINES];
        private final int[] phases = new int[LINES];
        private final int[] noises = new int[LINES];
        private final boolean[] missing = new boolean[LINES];
        private int standard;

        Picture() {
            for (int line = 0; line < LINES; line++) {
                amplitudes[line] = FIRST_AMPLITUDE;
            }
        }

        /** Answers whether the segment became another one. */
        boolean paint(int place, int y, int u, int v) {
            boolean changes = lumas[place] != y || us[place] != u || vs[place] != v;
            lumas[place] = y;
            us[place] = u;
            vs[place] = v;
            return changes;
        }

        int sampleAt(int line, int k) {
            int distance = k - 8 - jitters[line];
            int turn = turnAt(line, k + phases[line]);
            return noiseAt(line, k) + levelAt(line, distance, turn);
        }

        private int noiseAt(int line, int k) {
            return noises[line] * (Math.floorMod(7 * k + 13 * line, 5) - 2);
        }

        private int levelAt(int line, int distance, int turn) {
            if (distance < 0) {
                return 0;
            }
            if (distance < BURST_DISTANCE) {
                return missing[line] ? 0 : PULSE_LEVEL;
            }
            if (distance < PICTURE_DISTANCE) {
                return burstAt(line, turn);
            }
            int segment = (distance - PICTURE_DISTANCE) / SPAN;
            if (segment >= SEGMENTS) {
                return 0;
            }
            int place = placeOf(line, segment);
            return lumas[place] + us[place] * SINE[turn] + signOf(line) * vs[place] * COSINE[turn];
        }

        private int burstAt(int line, int turn) {
            int level = -amplitudes[line] * SINE[turn];
            if (standard == TURNED) {
                level += signOf(line) * amplitudes[line] * COSINE[turn];
            }
            return level;
        }

        private int signOf(int line) {
            return standard == TURNED && (line & 1) == 1 ? -1 : 1;
        }
    }

    /** The text that tells the bars of a line. */
    private static final class BarText {
        private static final int NO_FAULT = -1;
        private static final int ROOM = 60;
        private static final char[] LETTERS = {'w', 'y', 'c', 'g', 'm', 'r', 'b', 'k'};
        private static final int[] BAR_LUMAS = {180, 160, 140, 120, 80, 60, 30, 10};
        private static final int[] BAR_US = {0, -50, 20, -40, 40, -20, 60, 0};
        private static final int[] BAR_VS = {0, 10, -50, -40, 40, 60, -10, 0};

        private final char[] characters = new char[ROOM];
        private int used;
        /** For each segment the index of its letter in LETTERS, by the latest parse without a fault. */
        private final int[] bars = new int[SEGMENTS];
        private int letters;

        boolean append(char character) {
            if (used >= ROOM) {
                return false;
            }
            characters[used] = character;
            used++;
            return true;
        }

        /** Answers the fault of the text, or NO_FAULT; then bars and letters tell what it says. */
        int parse() {
            int told = 0;
            boolean digitMayFollow = false;
            letters = 0;
            for (int i = 0; i < used; i++) {
                int bar = barOf(characters[i]);
                if (bar >= 0) {
                    if (told >= SEGMENTS) {
                        return i;
                    }
                    bars[told] = bar;
                    told++;
                    letters++;
                    digitMayFollow = true;
                } else {
                    int more = digitMayFollow ? digitOf(characters[i]) - 1 : -1;
                    if (more < 0 || told + more > SEGMENTS) {
                        return i;
                    }
                    told = repeatBar(told, more);
                    digitMayFollow = false;
                }
            }
            return told < SEGMENTS ? used : NO_FAULT;
        }

        /** The letter itself has told one segment already; its digit adds the rest. */
        private int repeatBar(int told, int more) {
            int end = told + more;
            for (int segment = told; segment > 0 && segment < end && segment < SEGMENTS; segment++) {
                bars[segment] = bars[segment - 1];
            }
            return end;
        }

        void paintBar(Picture picture, int place, int segment) {
            int bar = bars[segment];
            picture.paint(place, BAR_LUMAS[bar], BAR_US[bar], BAR_VS[bar]);
        }

        private static int barOf(char character) {
            for (int bar = 0; bar < LETTERS.length; bar++) {
                if (LETTERS[bar] == character) {
                    return bar;
                }
            }
            return -1;
        }

        /** 0 for what is not a digit from 1 to 9. */
        private static int digitOf(char character) {
            return character >= '1' && character <= '9' ? character - '0' : 0;
        }
    }

    /** The settings of the decoder. */
    private static final class Settings {
        private static final int LAST = 3;
        private static final int GUESSED = 2;
        private static final int[] LOWEST = {1, 0, 0, 0};
        private static final int[] HIGHEST = {40, 100, 3, 2};

        private final int[] values = {8, 10, 3, GUESSED};

        boolean allows(int what, int value) {
            return isWithin(value, LOWEST[what], HIGHEST[what]);
        }

        int threshold() {
            return values[0];
        }

        int limit() {
            return values[1];
        }

        int comb() {
            return values[2];
        }

        int standardTaken(int guessed) {
            return values[3] == GUESSED ? guessed : values[3];
        }
    }

    /** The samples of all lines as they are decoded, made once a decoding: each is read many times. */
    private static final class Signal {
        private static final int PULSE_LIMIT = -20;
        private static final int PULSE_RUN = 4;
        private static final int LAST_PULSE = 20;

        private final int[][] rows = new int[LINES][SAMPLES];

        void sendFrom(Picture picture) {
            for (int line = 0; line < LINES; line++) {
                int[] row = rows[line];
                for (int k = 0; k < SAMPLES; k++) {
                    row[k] = picture.sampleAt(line, k);
                }
            }
        }

        /** Samples with other numbers, and those of lines that are not there, are 0. */
        int at(int line, int k) {
            return line < 0 || line >= LINES || k < 0 || k >= SAMPLES ? 0 : rows[line][k];
        }

        int sumFrom(int line, int first) {
            int sum = 0;
            for (int i = 0; i < SPAN; i++) {
                sum += at(line, first + i);
            }
            return sum;
        }

        /** Where the pulse of a line is found, or NOT_FOUND. */
        int pulseOf(int line) {
            int run = 0;
            for (int k = 0; k < LAST_PULSE + PULSE_RUN; k++) {
                run = at(line, k) <= PULSE_LIMIT ? run + 1 : 0;
                if (run == PULSE_RUN) {
                    return k - PULSE_RUN + 1;
                }
            }
            return NOT_FOUND;
        }
    }

    /** Finds the starts of all lines by their pulses and a flywheel. */
    private static final class LineFinder {
        private static final int FIRST_POSITION = 32;
        private static final int REACH = 12;

        private final int[] pulses = new int[LINES];
        private final int[] starts = new int[LINES];
        private final int[] positions = new int[LINES];
        private final boolean[] locked = new boolean[LINES];
        /** In quarters of a sample. */
        private int position;
        private int hits;
        private int misses;
        private boolean isLocked;

        void find(Signal signal) {
            position = FIRST_POSITION;
            hits = 0;
            misses = 0;
            isLocked = false;
            for (int line = 0; line < LINES; line++) {
                int pulse = signal.pulseOf(line);
                steer(pulse);
                pulses[line] = pulse;
                positions[line] = position;
                locked[line] = isLocked;
                starts[line] = isLocked || pulse == NOT_FOUND ? Math.floorDiv(position + 2, 4) : pulse;
            }
        }

        private void steer(int pulse) {
            int error = 4 * pulse - position;
            if (pulse != NOT_FOUND && isWithin(error, -REACH, REACH)) {
                // Java's division rounds towards zero, as the document wants it here, but nowhere else.
                position += error / 2;
                hits++;
                misses = 0;
            } else {
                misses++;
                hits = 0;
                if (pulse != NOT_FOUND && !isLocked) {
                    position = 4 * pulse;
                }
            }
            if (hits >= 2) {
                isLocked = true;
            }
            if (misses >= 4) {
                isLocked = false;
            }
        }
    }

    /** Measures the bursts of all lines, and tells by them where color is on, and the standard. */
    private static final class Bursts {
        /** P of each line. */
        private final int[] sines = new int[LINES];
        /** Q of each line. */
        private final int[] cosines = new int[LINES];
        private final boolean[] good = new boolean[LINES];
        private final boolean[] colorOn = new boolean[LINES];
        private int turnedPairs;
        private int steadyPairs;

        void measure(Signal signal, int[] starts, int threshold) {
            turnedPairs = 0;
            steadyPairs = 0;
            boolean on = true;
            for (int line = 0; line < LINES; line++) {
                sumUp(signal, line, starts[line] + BURST_DISTANCE);
                good[line] = Math.abs(sines[line]) + Math.abs(cosines[line]) >= 4 * threshold;
                if (line > 0 && good[line] == good[line - 1]) {
                    on = good[line];
                    countPair(line, threshold);
                }
                colorOn[line] = on;
            }
        }

        private void sumUp(Signal signal, int line, int first) {
            int sine = 0;
            int cosine = 0;
            for (int k = first; k < first + SPAN; k++) {
                int x = signal.at(line, k);
                int turn = turnAt(line, k);
                sine += x * SINE[turn];
                cosine += x * COSINE[turn];
            }
            sines[line] = sine;
            cosines[line] = cosine;
        }

        /** Counts the pair of a line and the one before it, if their bursts are good. */
        private void countPair(int line, int threshold) {
            if (line < 1 || !good[line] || !good[line - 1]) {
                return;
            }
            int before = cosines[line - 1];
            int here = cosines[line];
            if (before * here < 0 && Math.abs(before) >= threshold && Math.abs(here) >= threshold) {
                turnedPairs++;
            } else {
                steadyPairs++;
            }
        }

        int guessedStandard() {
            return oneIf(turnedPairs > steadyPairs);
        }
    }

    /** The reference that follows the phase of the good bursts. */
    private static final class PhaseReference {
        /** rp behind each line. */
        private final float[] sines = new float[LINES];
        /** rq behind each line. */
        private final float[] cosines = new float[LINES];

        void follow(Bursts bursts, int standard) {
            float rp = 0f;
            float rq = 0f;
            boolean isFirst = true;
            for (int line = 0; line < LINES; line++) {
                if (bursts.good[line]) {
                    float m = aimOf(bursts.sines, line, standard);
                    float w = aimOf(bursts.cosines, line, standard);
                    rp = isFirst ? m : rp + (m - rp) * 0.25f;
                    rq = isFirst ? w : rq + (w - rq) * 0.25f;
                    isFirst = false;
                }
                sines[line] = rp;
                cosines[line] = rq;
            }
        }

        private static float aimOf(int[] sums, int line, int standard) {
            if (standard != TURNED || line < 1) {
                return (float) -sums[line];
            }
            return (float) -(sums[line] + sums[line - 1]) / 2f;
        }
    }

    /** Takes the lines apart into luma and chroma. */
    private static final class Combs {
        private static final int NOTCH = 0;
        private static final int ABOVE = 1;
        private static final int BELOW = 2;
        private static final int BOTH = 3;

        /** M of each segment: its neighbors above and below ask for it, too. */
        private final int[] sums = new int[PLACES];
        private final int[] lumas = new int[PLACES];
        private final int[] ways = new int[PLACES];
        /** I of each segment. */
        private final int[] sines = new int[PLACES];
        /** K of each segment. */
        private final int[] cosines = new int[PLACES];

        void separate(Signal signal, int[] starts, Settings settings, int standard) {
            int comb = standard == TURNED ? 0 : settings.comb();
            int tolerance = SPAN * settings.limit();
            sumUp(signal, starts);
            for (int line = 0; line < LINES; line++) {
                for (int segment = 0; segment < SEGMENTS; segment++) {
                    int way = wayFor(line, placeOf(line, segment), comb, tolerance);
                    splitSegment(signal, starts, line, segment, way);
                }
            }
        }

        private void sumUp(Signal signal, int[] starts) {
            for (int line = 0; line < LINES; line++) {
                int first = starts[line] + PICTURE_DISTANCE;
                for (int segment = 0; segment < SEGMENTS; segment++) {
                    sums[placeOf(line, segment)] = signal.sumFrom(line, first + SPAN * segment);
                }
            }
        }

        private int wayFor(int line, int place, int comb, int tolerance) {
            boolean above = line > 0;
            boolean below = line < LINES - 1;
            switch (comb) {
                case 1:
                    return above ? ABOVE : BELOW;
                case 2:
                    break;
                case 3:
                    above = above && isNear(place, place - SEGMENTS, tolerance);
                    below = below && isNear(place, place + SEGMENTS, tolerance);
                    break;
                default:
                    return NOTCH;
            }
            // The numbers of the ways are such that BOTH is ABOVE and BELOW together.
            return (above ? ABOVE : NOTCH) + (below ? BELOW : NOTCH);
        }

        private boolean isNear(int place, int other, int tolerance) {
            return isWithin(other, 0, PLACES - 1) && Math.abs(sums[other] - sums[place]) <= tolerance;
        }

        private void splitSegment(Signal signal, int[] starts, int line, int segment, int way) {
            int chromaSum = 0;
            int sine = 0;
            int cosine = 0;
            int distance = PICTURE_DISTANCE + SPAN * segment;
            for (int i = 0; i < SPAN; i++) {
                int chroma = chromaAt(signal, starts, line, distance + i, way);
                int turn = turnAt(line, starts[line] + distance + i);
                chromaSum += chroma;
                sine += chroma * SINE[turn];
                cosine += chroma * COSINE[turn];
            }
            int place = placeOf(line, segment);
            lumas[place] = Math.floorDiv(4 * sums[place] - chromaSum, 32);
            ways[place] = way;
            sines[place] = sine;
            cosines[place] = cosine;
        }

        private static int chromaAt(Signal signal, int[] starts, int line, int distance, int way) {
            int twice = 2 * sampleAt(signal, starts, line, distance);
            switch (way) {
                case ABOVE:
                    return twice - 2 * sampleAt(signal, starts, line - 1, distance);
                case BELOW:
                    return twice - 2 * sampleAt(signal, starts, line + 1, distance);
                case BOTH:
                    return twice - sampleAt(signal, starts, line - 1, distance) - sampleAt(signal, starts, line + 1, distance);
                default:
                    return twice - sampleAt(signal, starts, line, distance - 2) - sampleAt(signal, starts, line, distance + 2);
            }
        }

        /** The sample of a line at a distance from its own start. */
        private static int sampleAt(Signal signal, int[] starts, int line, int distance) {
            return isLine(line) ? signal.at(line, starts[line] + distance) : 0;
        }
    }

    /** Turns the chroma to the phase of the reference. */
    private static final class Colors {
        private final float[] rawUs = new float[PLACES];
        private final float[] rawVs = new float[PLACES];
        private final float[] us = new float[PLACES];
        private final float[] vs = new float[PLACES];

        void turn(Combs combs, Bursts bursts, PhaseReference phases, int standard) {
            for (int line = 0; line < LINES; line++) {
                float rp = bursts.colorOn[line] ? phases.sines[line] : 0f;
                float rq = bursts.colorOn[line] ? phases.cosines[line] : 0f;
                boolean isMirrored = standard == TURNED && (line & 1) == 1;
                boolean isAveraged = standard == TURNED && line > 0;
                for (int segment = 0; segment < SEGMENTS; segment++) {
                    int place = placeOf(line, segment);
                    turnSegment(combs, place, rp, rq, isMirrored);
                    mixSegment(place, isAveraged);
                }
            }
        }

        /** A reference of 0 stands for color that is off, too: both leave the raw colors 0. */
        private void turnSegment(Combs combs, int place, float rp, float rq, boolean isMirrored) {
            float u = 0f;
            float v = 0f;
            float g = rp * rp + rq * rq;
            if (g != 0f) {
                float e = (float) combs.sines[place] / 16f;
                float f = (float) combs.cosines[place] / 16f;
                u = (e * rp + f * rq) * 80f / g;
                v = (f * rp - e * rq) * 80f / g;
                if (isMirrored) {
                    v = 0f - v;
                }
            }
            rawUs[place] = u;
            rawVs[place] = v;
        }

        private void mixSegment(int place, boolean isAveraged) {
            int above = place - SEGMENTS;
            if (isAveraged && above >= 0) {
                us[place] = (rawUs[place] + rawUs[above]) * 0.5f;
                vs[place] = (rawVs[place] + rawVs[above]) * 0.5f;
            } else {
                us[place] = rawUs[place];
                vs[place] = rawVs[place];
            }
        }
    }

    /** Tells moving segments from noise by two decodings. */
    private static final class Movement {
        private static final int STILL = 0;
        private static final int NOISE = 1;
        private static final int MOVING = 2;

        private final int[] lumasBefore = new int[PLACES];
        private final boolean[] changed = new boolean[PLACES];
        private final int[] kinds = new int[PLACES];

        void watch(int[] lumas, int limit, boolean hasBefore) {
            if (hasBefore) {
                for (int place = 0; place < PLACES; place++) {
                    changed[place] = Math.abs(lumas[place] - lumasBefore[place]) > limit;
                }
                for (int line = 0; line < LINES; line++) {
                    for (int segment = 0; segment < SEGMENTS; segment++) {
                        kinds[placeOf(line, segment)] = kindOf(line, segment);
                    }
                }
            }
            System.arraycopy(lumas, 0, lumasBefore, 0, PLACES);
        }

        private int kindOf(int line, int segment) {
            if (!hasChanged(line, segment)) {
                return STILL;
            }
            boolean beside = hasChanged(line, segment - 1) || hasChanged(line, segment + 1);
            boolean across = hasChanged(line - 1, segment) || hasChanged(line + 1, segment);
            return beside || across ? MOVING : NOISE;
        }

        private boolean hasChanged(int line, int segment) {
            return isPlace(line, segment) && changed[placeOf(line, segment)];
        }
    }
}
