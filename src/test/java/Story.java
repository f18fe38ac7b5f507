/** A machine with a head for tests, and ways to write stories into it. */
final class Story {
    static final int GLOBALS = 16;
    static final int CODE = 80;
    static final int ROUTINE = 160;
    static final int FREE = 200;
    static final int OBJECTS = 300;
    static final int DICTIONARY = 300;
    static final int SIZE = 512;

    /** Variables: the stack, and the globals that tests use. */
    static final int TOP = 0;
    static final int G0 = 16;
    static final int G1 = 17;
    static final int G2 = 18;

    /** Operations of list NONE. */
    static final int RETURN_1 = 176;
    static final int RETURN_0 = 177;
    static final int PUT_TEXT = 178;
    static final int PUT_TEXT_RETURN = 179;
    static final int NOTHING = 180;
    static final int SAVE = 181;
    static final int RESTORE = 182;
    static final int RETURN_TOP = 184;
    static final int TOP_GOES = 185;
    static final int END = 186;
    static final int NEW_LINE = 187;

    final StoryMachine machine = new StoryMachine();

    Story() {
        word(4, CODE);
        word(6, DICTIONARY);
        word(8, OBJECTS);
        word(10, GLOBALS);
        word(12, SIZE);
    }

    /** A story begun with these bytes as its code. */
    static Story of(int... code) {
        return new Story().begin(code);
    }

    Story begin(int... code) {
        bytes(CODE, code);
        machine.begin();
        return this;
    }

    /** In few calls, since an object is good for 512 of them. */
    Story bytes(int place, int... values) {
        for (int i = 0; i < values.length; i += 8) {
            int n = Math.min(8, values.length - i);
            long packed = 0;
            for (int j = i; j < i + n; j++) {
                packed = packed << 8 | values[j] & 255;
            }
            machine.poke(place + i, packed, n);
        }
        return this;
    }

    Story word(int place, int value) {
        machine.poke(place, value, 2);
        return this;
    }

    Story line(String text) {
        for (int i = 0; i < text.length(); i++) {
            machine.type(text.charAt(i), 1);
        }
        machine.enter();
        return this;
    }

    int wordAt(int place) {
        return 256 * machine.peek(place) + machine.peek(place + 1);
    }

    /** The value of a variable from 16 on. */
    int global(int variable) {
        return wordAt(GLOBALS + 2 * (variable - 16));
    }

    /** What was put out, at most the latest 64. */
    String text() {
        StringBuilder text = new StringBuilder();
        int kept = Math.min(64, machine.output(-1));
        for (int k = kept - 1; k >= 0; k--) {
            text.append((char) machine.output(k));
        }
        return text.toString();
    }

    /** The types of at most four numbers: w a word, b a byte, v a variable. */
    static int types(String kinds) {
        int types = 0;
        for (int i = 0; i < 4; i++) {
            types = 4 * types + (i < kinds.length() ? "wbv".indexOf(kinds.charAt(i)) : 3);
        }
        return types;
    }

    static int high(int word) {
        return (word >> 8) & 255;
    }

    static int low(int word) {
        return word & 255;
    }

    /** The bytes of a text with these letters; what is missing in the last word is 5. */
    static int[] text(int... letters) {
        int words = Math.max(1, (letters.length + 2) / 3);
        int[] bytes = new int[2 * words];
        for (int i = 0; i < words; i++) {
            int word = i == words - 1 ? 1 : 0;
            for (int j = 3 * i; j < 3 * i + 3; j++) {
                word = 32 * word + (j < letters.length ? letters[j] : 5);
            }
            bytes[2 * i] = high(word);
            bytes[2 * i + 1] = low(word);
        }
        return bytes;
    }

    /** SECOND with two numbers as words, gives to G0; the story then ends. */
    static Story giving(int operation, int x, int y) {
        return of(192 + operation, types("ww"), high(x), low(x), high(y), low(y), G0, END);
    }

    /** SECOND with two numbers as words that branches by true; G0 becomes 1 if it does. */
    static Story asking(int operation, int x, int y) {
        return of(192 + operation, types("ww"), high(x), low(x), high(y), low(y), 128 + 64 + 3,
                END, 13, G0, 1, END);
    }

    /** Runs to the end and tells whether an asking story has branched; -1 if it came to trouble. */
    int asked() {
        return machine.run(5) == 5 ? global(G0) : -1;
    }
}
