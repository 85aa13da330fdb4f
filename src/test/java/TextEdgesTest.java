/** Promises 7 to 9, and the term Bars: each sentence that names an edge. */
public final class TextEdgesTest {
    private static final String LETTERS = "wycgmrbk";
    private static final int[][] YUV = {{180, 0, 0}, {160, -50, 10}, {140, 20, -50}, {120, -40, -40},
        {80, 40, 40}, {60, -20, 60}, {30, 60, -10}, {10, 0, 0}};

    public static void main(String[] args) {
        theTextIsEmptyAtFirst();
        theTextHasSixtyCharacters();
        aClearedTextIsEmpty();
        eightLettersAlone();
        onlyDigitsFromOneToNineBehindALetter();
        eachDigitTellsItsSegments();
        noDigitGoesBeyondTen();
        aDigitBehindADigit();
        aLetterBehindTheTenthSegment();
        theTextEndsTooEarly();
        theFirstFaultIsTold();
        theGreatestFault();
        aFaultSetsNothing();
        theTextStays();
        barsReachOneLine();
        theNumberOfLetters();
        Check.finish();
    }

    /** "empty at first": its fault is its length, 0. */
    private static void theTextIsEmptyAtFirst() {
        CompositeDecoder x = new CompositeDecoder();
        Check.due("the length", x.count(14), 0);
        Check.due("the fault", x.readBars(0), -100);
        Check.due("the length that it had", x.clearText(), 0);
        Check.due("the first character", x.type('w'), 1);
    }

    /** "a text of at most 60 characters"; "FULL if it has 60 characters". */
    private static void theTextHasSixtyCharacters() {
        for (char c : new char[] {'w', '1', 0, 255, Character.MAX_VALUE}) {
            CompositeDecoder x = new CompositeDecoder();
            for (int i = 1; i <= 60; i++) {
                Check.due("character " + i, x.type(c), i);
            }
            for (char other : new char[] {c, 'w', '9', Character.MAX_VALUE}) {
                Check.due("the next character", x.type(other), CompositeDecoder.FULL);
                Check.due("the length stays", x.count(14), 60);
            }
            Check.due("the length that it had", x.clearText(), 60);
            Check.due("the length then", x.count(14), 0);
        }
    }

    /** "Empties the text": nothing of it is left, and it can be filled again. */
    private static void aClearedTextIsEmpty() {
        CompositeDecoder x = typed("wwwwwwwwww");
        Check.due("ten letters", x.readBars(0), 10);
        Check.due("clear", x.clearText(), 10);
        Check.due("clear again", x.clearText(), 0);
        Check.due("the empty text", x.readBars(0), -100);
        Check.due("one character", x.type('w'), 1);
        Check.due("one segment", x.readBars(0), -101);
        for (int i = 2; i <= 60; i++) {
            Check.due("character " + i, x.type('w'), i);
        }
        Check.due("full again", x.type('w'), CompositeDecoder.FULL);
    }

    /** Of all characters, only the eight letters are allowed at the beginning. */
    private static void eightLettersAlone() {
        for (int c = 0; c <= Character.MAX_VALUE; c++) {
            CompositeDecoder x = new CompositeDecoder();
            x.type((char) c);
            Check.due("character " + c + " ahead", x.readBars(7), LETTERS.indexOf(c) >= 0 ? -101 : -100);
        }
    }

    /** Behind a letter, the eight letters and the digits from 1 to 9 are allowed; "0" and all others are not. */
    private static void onlyDigitsFromOneToNineBehindALetter() {
        for (int c = 0; c <= Character.MAX_VALUE; c++) {
            CompositeDecoder x = new CompositeDecoder();
            x.type('w');
            x.type((char) c);
            boolean allowed = LETTERS.indexOf(c) >= 0 || c >= '1' && c <= '9';
            Check.due("character " + c + " behind a letter", x.readBars(0), allowed ? -102 : -101);
        }
    }

    /** "which tells for how many segments it stands (1 without a digit)", of each letter. */
    private static void eachDigitTellsItsSegments() {
        for (int letter = 0; letter < 8; letter++) {
            for (int digit = 1; digit <= 9; digit++) {
                int other = (letter + digit) % 8;
                CompositeDecoder x = typed("" + LETTERS.charAt(letter) + digit + same(LETTERS.charAt(other), 10 - digit));
                Check.due("letters", x.readBars(2), 11 - digit);
                for (int i = 0; i < 10; i++) {
                    bar(x, 2, i, i < digit ? letter : other);
                }
            }
        }
    }

    /** "a digit with which there would be more than ten segments": for each number of segments ahead of it. */
    private static void noDigitGoesBeyondTen() {
        for (int ahead = 0; ahead < 10; ahead++) {
            for (int digit = 1; digit <= 9; digit++) {
                int length = ahead + 2;
                int segments = ahead + digit;
                int want = segments == 10 ? ahead + 1 : segments < 10 ? -100 - length : -100 - (length - 1);
                CompositeDecoder x = typed(same('y', ahead) + "k" + digit);
                Check.due(ahead + " letters and k" + digit, x.readBars(1), want);
            }
        }
    }

    /** "each of which can be followed by a digit": by one alone. */
    private static void aDigitBehindADigit() {
        for (int digit = 0; digit <= 9; digit++) {
            Check.due("w1 and " + digit, typed("w1" + digit).readBars(0), -102);
            Check.due("w9k1 and " + digit, typed("w9k1" + digit).readBars(0), -104);
        }
    }

    /** "a letter behind the tenth segment", whether a letter or a digit told the tenth. */
    private static void aLetterBehindTheTenthSegment() {
        for (int i = 0; i < 8; i++) {
            char letter = LETTERS.charAt(i);
            Check.due("the tenth letter", typed("wwwwwwwww" + letter).readBars(0), 10);
            Check.due("the eleventh letter", typed("wwwwwwwwww" + letter).readBars(0), -110);
            Check.due("behind the digit 1", typed("wwwwwwwwww1" + letter).readBars(0), -111);
            Check.due("behind w5k5", typed("w5k5" + letter).readBars(0), -104);
            Check.due("behind w9", typed("w9" + letter).readBars(0), 2);
        }
    }

    /** "or its length if it ends too early": up to nine segments, with and without digits. */
    private static void theTextEndsTooEarly() {
        for (int segments = 0; segments < 10; segments++) {
            Check.due(segments + " letters", typed(same('g', segments)).readBars(0), -100 - segments);
            StringBuilder ones = new StringBuilder();
            for (int i = 0; i < segments; i++) {
                ones.append("b1");
            }
            Check.due(segments + " letters with a 1", typed(ones.toString()).readBars(0), -100 - 2 * segments);
            if (segments > 0) {
                Check.due("one digit", typed("r" + segments).readBars(0), -102);
            }
        }
    }

    /** "the index, from 0, of the first character that is not allowed at its place". */
    private static void theFirstFaultIsTold() {
        Check.due("index 0", typed("x0x0").readBars(0), -100);
        Check.due("a digit at index 0", typed("5w5").readBars(0), -100);
        Check.due("index 1", typed("wxyz").readBars(0), -101);
        Check.due("a fault ahead of the early end", typed("w9x").readBars(0), -102);
        Check.due("a fault ahead of the letter too many", typed("w9zkk").readBars(0), -102);
        Check.due("a digit too large ahead of a wrong character", typed("w9k2x").readBars(0), -103);
        Check.due("large letters", typed("W").readBars(0), -100);
        Check.due("a blank behind ten segments", typed("w9k ").readBars(0), -103);
    }

    /** No fault lies beyond 20, for 20 characters tell ten segments at most: the rest of a full text is not looked at. */
    private static void theGreatestFault() {
        String twenty = "w1w1w1w1w1w1w1w1w1w1";
        Check.due("20 characters", typed(twenty).readBars(0), 10);
        Check.due("a 21st letter", typed(twenty + "w").readBars(0), -120);
        Check.due("a 21st digit", typed(twenty + "1").readBars(0), -120);
        Check.due("60 characters", typed(twenty + twenty + twenty).readBars(0), -120);
    }

    /** "A call that reports an error changes nothing": not even the segments ahead of the fault. */
    private static void aFaultSetsNothing() {
        for (String text : new String[] {"", "w", "w9", "w9k2", "w9kk", "rrrrrrrrrrx", "g5g5x"}) {
            for (int line : new int[] {0, 7}) {
                CompositeDecoder x = typed(text);
                x.fill(line, 33, -3, 3);
                Check.due("the text has a fault", x.readBars(line) <= -100 ? 1 : 0, 1);
                Check.due("the line stays", x.fill(line, 33, -3, 3), 0);
                Check.due("the text stays", x.count(14), text.length());
            }
        }
    }

    /** "Sets the segments of a line by the text, which stays." */
    private static void theTextStays() {
        CompositeDecoder x = typed("c9m");
        for (int n = 0; n < 8; n++) {
            Check.due("letters, line " + n, x.readBars(n), 2);
            Check.due("the length", x.count(14), 3);
            bar(x, n, 8, 2);
            bar(x, n, 9, 4);
        }
        Check.due("one more character", x.type('1'), 4);
        Check.due("the longer text", x.readBars(0), 2);
        Check.due("a digit too many", x.type('1'), 5);
        Check.due("its fault", x.readBars(0), -104);
    }

    /** Y, U and V of the line's segments all come from the text; no other line changes. */
    private static void barsReachOneLine() {
        for (int line : new int[] {0, 7}) {
            CompositeDecoder x = typed("w9k");
            for (int n = 0; n < 8; n++) {
                x.fill(n, 77, 7, -7);
            }
            Check.due("letters", x.readBars(line), 2);
            for (int n = 0; n < 8; n++) {
                Check.due("line " + n, x.fill(n, 77, 7, -7), n == line ? 10 : 0);
            }
        }
        CompositeDecoder x = typed("w9k");
        x.fill(3, 180, 1, 0);
        x.readBars(3);
        Check.due("U became 0", x.fill(3, 180, 0, 0), 1);
        x.fill(3, 180, 0, 1);
        x.readBars(3);
        Check.due("V became 0", x.fill(3, 180, 0, 0), 1);
    }

    /** "Returns the number of letters in the text": from 2, as a letter tells nine segments at most, to 10. */
    private static void theNumberOfLetters() {
        Check.due("two", typed("w9k").readBars(0), 2);
        Check.due("two", typed("k1w9").readBars(0), 2);
        Check.due("three", typed("w8kw").readBars(0), 3);
        Check.due("nine", typed("w2kwkwkwkw").readBars(0), 9);
        Check.due("ten", typed("wkwkwkwkwk").readBars(0), 10);
        Check.due("ten alike", typed("kkkkkkkkkk").readBars(0), 10);
    }

    private static String same(char c, int times) {
        return String.valueOf(c).repeat(times);
    }

    private static CompositeDecoder typed(String text) {
        CompositeDecoder x = new CompositeDecoder();
        for (int i = 0; i < text.length(); i++) {
            Check.due("type", x.type(text.charAt(i)), i + 1);
        }
        return x;
    }

    /** Reads Y, U and V of a segment from its first four samples; t is 0 at the third one of an odd line. */
    private static void bar(CompositeDecoder x, int line, int segment, int letter) {
        int first = 24 + 8 * segment;
        int zero = first + 2 * (line % 2);
        int two = first + 2 - 2 * (line % 2);
        String what = "segment " + segment + " as " + LETTERS.charAt(letter);
        Check.due(what + ", twice Y", x.sample(line, zero) + x.sample(line, two), 2 * YUV[letter][0]);
        Check.due(what + ", U", x.sample(line, zero + 1) - YUV[letter][0], YUV[letter][1]);
        Check.due(what + ", V", x.sample(line, zero) - YUV[letter][0], YUV[letter][2]);
    }
}
