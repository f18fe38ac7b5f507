/** Terms, PROPERTIES and their DEFAULTS: both sides of each edge, and what has changed. */
public final class PropertyEdgeTest extends Edge {
    private static final int OBJECTS = Story.OBJECTS;
    private static final int OBJECT = 2;
    private static final int DESCRIPTION = OBJECTS + 14 + 9 + 7;
    private static final int VALUE = 17;
    private static final int PLACE = 18;
    private static final int BEHIND = 19;

    public static void main(String[] args) {
        valuesHaveOneOrTwoBytes();
        defaultsAreOf1To7();
        aPropertyIsFoundByItsNumber();
        aPlaceIs0WhenThereIsNone();
        theNumberBehind();
        theFirstOfTwoIsFound();
        lengthsAre1To8();
        theByteBeforeMustBeThere();
        propertiesOfOneOrTwoBytesAreSet();
        propertiesThatCannotBeWritten();
        listsThatAreNotAllThere();
        valuesThatAreNotAllThere();
        theNameComesFirst();
        Check.end();
    }

    /** The object has no name and these bytes as its properties. */
    private static Story with(int... properties) {
        Story story = new Story().word(DESCRIPTION, FREE).bytes(FREE, 0).bytes(FREE + 1, properties);
        for (int i = 1; i <= 7; i++) {
            story.word(OBJECTS + 2 * (i - 1), 1000 + i);
        }
        return story.word(OBJECTS + 14, 1008).word(GLOBALS, 9999);
    }

    private static int head(int length, int number) {
        return 32 * (length - 1) + number;
    }

    private static int[] get(int operation, int number) {
        return second(operation, "ww", OBJECT, number, G0);
    }

    private static int[] set(int number, int value) {
        return many(3, "www", OBJECT, number, value);
    }

    /** "property y of object x (of length 1 or 2, otherwise bad ..)" */
    private static void valuesHaveOneOrTwoBytes() {
        done("one", get(VALUE, 9), () -> with(head(1, 9), 200, 0), due -> due.global(G0, 200));
        done("two", get(VALUE, 9), () -> with(head(2, 9), 0x81, 0x42, 0), due -> due.global(G0, 0x8142));
        for (int length = 3; length <= 8; length++) {
            int[] properties = new int[length + 2];
            properties[0] = head(length, 9);
            bad(length + " bytes", get(VALUE, 9), () -> with(properties));
        }
        bad("three bytes, one that has a default", get(VALUE, 5), () -> with(head(3, 5), 1, 2, 3, 0));
    }

    /** "the default of y, 1 to 7, otherwise bad, when it has none" */
    private static void defaultsAreOf1To7() {
        for (int number = 1; number <= 7; number++) {
            int due = 1000 + number;
            done("default of " + number, get(VALUE, number), () -> with(0), answers -> answers.global(G0, due));
        }
        for (int number : new int[] {0, 8, 31, 32, 32 + 1, 255, 256 + 1, 65535}) {
            bad("no default of " + number, get(VALUE, number), () -> with(0));
        }
        done("its own instead", get(VALUE, 7), () -> with(head(1, 7), 3, 0), due -> due.global(G0, 3));
    }

    /** "a byte 32 * (length - 1) + number" */
    private static void aPropertyIsFoundByItsNumber() {
        int[] list = {head(1, 31), 11, head(8, 30), 1, 2, 3, 4, 5, 6, 7, 8, head(2, 8), 2, 2, head(1, 1), 13, 0};
        done("31", get(VALUE, 31), () -> with(list), due -> due.global(G0, 11));
        done("8", get(VALUE, 8), () -> with(list), due -> due.global(G0, 0x0202));
        done("1", get(VALUE, 1), () -> with(list), due -> due.global(G0, 13));
        bad("29", get(VALUE, 29), () -> with(list));
        bad("31 + 32", get(VALUE, 63), () -> with(list));
        done("behind the last one 0", get(PLACE, 1), () -> with(head(1, 2), 5, 0, head(1, 1), 13, 0),
                due -> due.global(G0, 0));
    }

    /** "the place of that (0 when it has none)" */
    private static void aPlaceIs0WhenThereIsNone() {
        int[] list = {head(1, 20), 11, head(8, 9), 1, 2, 3, 4, 5, 6, 7, 8, head(3, 5), 1, 2, 3, 0};
        done("the first", get(PLACE, 20), () -> with(list), due -> due.global(G0, FREE + 2));
        done("of eight bytes", get(PLACE, 9), () -> with(list), due -> due.global(G0, FREE + 4));
        done("of three bytes", get(PLACE, 5), () -> with(list), due -> due.global(G0, FREE + 13));
        for (int number : new int[] {1, 6, 21, 31, 32, 52, 256 + 20, 65535}) {
            done("none, " + number, get(PLACE, number), () -> with(list), due -> due.global(G0, 0));
        }
        done("an empty list", get(PLACE, 1), () -> with(0), due -> due.global(G0, 0));
    }

    /** "the number of the property behind y, of the first one when y is 0 (0 behind the last; bad when it has no y)" */
    private static void theNumberBehind() {
        int[] list = {head(1, 31), 11, head(8, 9), 1, 2, 3, 4, 5, 6, 7, 8, head(2, 5), 1, 2, 0};
        done("the first one", get(BEHIND, 0), () -> with(list), due -> due.global(G0, 31));
        done("behind the first", get(BEHIND, 31), () -> with(list), due -> due.global(G0, 9));
        done("behind the second", get(BEHIND, 9), () -> with(list), due -> due.global(G0, 5));
        done("behind the last", get(BEHIND, 5), () -> with(list), due -> due.global(G0, 0));
        for (int number : new int[] {1, 4, 6, 30, 32, 37, 63, 256, 65535}) {
            bad("it has no " + number, get(BEHIND, number), () -> with(list));
        }
        done("the first one of none", get(BEHIND, 0), () -> with(0), due -> due.global(G0, 0));
        bad("behind 1 of none", get(BEHIND, 1), () -> with(0));
    }

    private static void theFirstOfTwoIsFound() {
        int[] list = {head(1, 5), 11, head(2, 5), 1, 2, head(1, 6), 13, 0};
        done("its value", get(VALUE, 5), () -> with(list), due -> due.global(G0, 11));
        done("its place", get(PLACE, 5), () -> with(list), due -> due.global(G0, FREE + 2));
        done("the number behind it", get(BEHIND, 5), () -> with(list), due -> due.global(G0, 5));
        done("it is set", set(5, 77), () -> with(list), due -> due.bytes(FREE + 2, 77));
    }

    /** "4 g the length of the property whose bytes are at x": 32 * (length - 1) + number, a byte */
    private static void lengthsAre1To8() {
        int[][] rows = {{0, 1}, {31, 1}, {32, 2}, {63, 2}, {64, 3}, {223, 7}, {224, 8}, {255, 8}};
        for (int[] row : rows) {
            done("length of " + row[0], first(4, FREE + 2, G0), () -> with(row[0]), due -> due.global(G0, row[1]));
        }
    }

    /** "To read a byte .. that is not all there .. is BAD": the one before the property's bytes */
    private static void theByteBeforeMustBeThere() {
        bad("before 0", first(4, 0, G0));
        done("before 1", first(4, 1, G0), () -> new Story().bytes(0, 64), due -> due.global(G0, 3));
        done("before 512", first(4, 512, G0), () -> new Story().bytes(511, 64), due -> due.global(G0, 3));
        bad("before 513", first(4, 513, G0));
        bad("before 65535", first(4, 65535, G0));
    }

    /** "property y of x becomes z (of length 1: its lowest byte; 2; otherwise, or when it has none: bad)" */
    private static void propertiesOfOneOrTwoBytesAreSet() {
        for (int value : new int[] {0, 255, 256, 0x1234, 65535}) {
            done("one byte becomes " + value, set(9, value), () -> with(head(1, 9), 7, 3, 0),
                    due -> due.bytes(FREE + 2, value & 255));
            done("two bytes become " + value, set(9, value), () -> with(head(2, 9), 7, 7, 3, 0),
                    due -> due.word(FREE + 2, value));
        }
        for (int length = 3; length <= 8; length++) {
            int[] properties = new int[length + 2];
            properties[0] = head(length, 9);
            bad(length + " bytes", set(9, 0x1234), () -> with(properties));
        }
        for (int number : new int[] {0, 1, 7, 8, 31, 32 + 9, 256 + 9, 65535}) {
            bad("it has no " + number, set(number, 0x1234), () -> with(head(1, 9), 7, 0));
        }
    }

    /** "bytes from there on .. cannot be written by the story": a property's */
    private static void propertiesThatCannotBeWritten() {
        int[] one = {head(1, 9), 7, 0};
        int[] two = {head(2, 9), 7, 8, 0};
        done("one byte below the base", set(9, 0x1234), () -> with(one).word(12, FREE + 3),
                due -> due.bytes(FREE + 2, 0x34));
        bad("one byte at the base", set(9, 0x1234), () -> with(one).word(12, FREE + 2));
        done("two bytes below the base", set(9, 0x1234), () -> with(two).word(12, FREE + 4),
                due -> due.word(FREE + 2, 0x1234));
        bad("two bytes over the base", set(9, 0x1234), () -> with(two).word(12, FREE + 3));
        bad("two bytes at the base", set(9, 0x1234), () -> with(two).word(12, FREE + 2));
    }

    private static Story at(int place, int... description) {
        return with(0).word(DESCRIPTION, place).bytes(place, description);
    }

    /** "To read a byte .. that is not all there .. is BAD": the list's */
    private static void listsThatAreNotAllThere() {
        done("it ends with the memory", get(PLACE, 5), () -> at(508, 0, head(1, 4), 9, 0), due -> due.global(G0, 0));
        bad("it has no end", get(PLACE, 5), () -> at(509, 0, head(1, 4), 9));
        done("found before the end", get(PLACE, 4), () -> at(509, 0, head(1, 4), 9), due -> due.global(G0, 511));
        bad("behind the last byte", get(BEHIND, 4), () -> at(509, 0, head(1, 4), 9));
        bad("a length that goes over the end", get(PLACE, 5), () -> at(509, 0, head(8, 4), 9));
        bad("no byte for the first one", get(BEHIND, 0), () -> at(511, 0));
        done("the first one at 511", get(BEHIND, 0), () -> at(510, 0, head(1, 4)), due -> due.global(G0, 4));
        bad("no default when the list has no end", get(VALUE, 5), () -> at(509, 0, head(1, 4), 9));
        bad("not set when the list has no end", set(5, 7), () -> at(509, 0, head(1, 4), 9));
        bad("its description is outside of the memory", get(PLACE, 5), () -> with(0).word(DESCRIPTION, 512));
        done("its description at 510", get(PLACE, 5), () -> at(510, 0, 0), due -> due.global(G0, 0));
    }

    /** "To read a byte or word that is not all there, or to write one that can't be, is BAD": a value's */
    private static void valuesThatAreNotAllThere() {
        done("a byte at 511", get(VALUE, 4), () -> at(509, 0, head(1, 4), 9), due -> due.global(G0, 9));
        bad("a byte at 512", get(VALUE, 4), () -> at(510, 0, head(1, 4)));
        done("its place is 512", get(PLACE, 4), () -> at(510, 0, head(1, 4)), due -> due.global(G0, 512));
        done("a word at 510", get(VALUE, 4), () -> at(508, 0, head(2, 4), 9, 8), due -> due.global(G0, 0x0908));
        bad("a word at 511", get(VALUE, 4), () -> at(509, 0, head(2, 4), 9));
        done("a byte set at 511", set(4, 7), () -> at(509, 0, head(1, 4), 9), due -> due.bytes(511, 7));
        bad("a byte set at 512", set(4, 7), () -> at(510, 0, head(1, 4)).word(12, 65535));
        bad("a word set at 511", set(4, 7), () -> at(509, 0, head(2, 4), 9).word(12, 65535));
    }

    /** "there a byte n, n words of text (its NAME), then PROPERTIES" */
    private static void theNameComesFirst() {
        done("no words", get(PLACE, 5), () -> at(FREE, 0, head(1, 5), 1, 0), due -> due.global(G0, FREE + 2));
        done("one word", get(PLACE, 5), () -> at(FREE, 1, 5, 5, head(1, 5), 1, 0), due -> due.global(G0, FREE + 4));
        done("130 words", get(PLACE, 5), () -> at(100, 130).bytes(361, head(1, 5), 1, 0).word(8, 0)
                .word(14 + 9 + 7, 100).word(10, 60), due -> due.word(60, 362));
        done("255 words, their end is the last byte", get(PLACE, 5), () -> shortHead(255, 0), due -> due.word(60, 0));
        bad("255 words, and no byte behind them", get(PLACE, 5), () -> shortHead(255, 1));
    }

    /** The description stands 511 bytes before the last byte of the memory, or by so many nearer. */
    private static Story shortHead(int words, int nearer) {
        Story story = new Story().word(10, 60).word(8, 10).word(10 + 14 + 9 + 7, nearer);
        return story.bytes(nearer, words).word(60, 9999);
    }
}
