/** Terms: READ and the dictionary. */
public final class ReadTest {
    private static final int TEXT = 400;
    private static final int WORDS = 440;
    private static final int ENTRIES = Story.DICTIONARY + 6;

    public static void main(String[] args) {
        characters();
        words();
        readTwice();
        separators();
        entries();
        lettersOfWords();
        waiting();
        badDictionaries();
        badPlaces();
        Check.end();
    }

    /** Separators . and , ; entries of 6 bytes. */
    private static Story story(int[]... entries) {
        Story story = new Story().bytes(Story.DICTIONARY, 2, '.', ',', 6, 0, entries.length);
        for (int i = 0; i < entries.length; i++) {
            story.bytes(ENTRIES + 6 * i, entries[i]);
        }
        story.bytes(TEXT, 30).bytes(WORDS, 15);
        return story.begin(228, Story.types("ww"), TEXT / 256, TEXT % 256, WORDS / 256, WORDS % 256, Story.END);
    }

    private static void text(Story story, String due) {
        for (int i = 0; i < due.length(); i++) {
            Check.same("character " + i + " of " + due, story.machine.peek(TEXT + 1 + i), due.charAt(i));
        }
        Check.same("behind " + due, story.machine.peek(TEXT + 1 + due.length()), 0);
    }

    private static void word(Story story, int index, int entry, int length, int first) {
        int at = WORDS + 2 + 4 * index;
        Check.same("entry of word " + index, story.wordAt(at), entry);
        Check.same("length of word " + index, story.machine.peek(at + 2), length);
        Check.same("place of word " + index, story.machine.peek(at + 3), first);
    }

    private static void ends(Story story, String line) {
        story.line(line);
        Check.same("reading " + line, story.machine.run(2), 5);
    }

    private static void characters() {
        Story story = story();
        ends(story, "Take THE AZaz[@`{ 9~");
        text(story, "take the azaz[@`{ 9~");
        Check.same("the byte at x stays", story.machine.peek(TEXT), 30);
        Story cut = story().bytes(TEXT, 4);
        ends(cut, "lamp oil");
        text(cut, "lamp");
        Check.same("one word", cut.machine.peek(WORDS + 1), 1);
        word(cut, 0, 0, 4, 1);
        Story just = story().bytes(TEXT, 8);
        ends(just, "lamp oil");
        text(just, "lamp oil");
        Story none = story().bytes(TEXT, 0);
        ends(none, "lamp");
        text(none, "");
        Check.same("no word", none.machine.peek(WORDS + 1), 0);
        Story longest = story();
        ends(longest, "abcdefghijklmnopqrstuvwx");
        text(longest, "abcdefghijklmnopqrstuvwx");
        word(longest, 0, 0, 24, 1);
    }

    private static void words() {
        Story story = story();
        ends(story, "  go  to sea ");
        Check.same("three", story.machine.peek(WORDS + 1), 3);
        word(story, 0, 0, 2, 3);
        word(story, 1, 0, 2, 7);
        word(story, 2, 0, 3, 10);
        Check.same("nothing behind them", story.wordAt(WORDS + 14), 0);
        Check.same("the byte at y stays", story.machine.peek(WORDS), 15);
        Story most = story().bytes(WORDS, 2).bytes(WORDS + 10, 99);
        ends(most, "a b c");
        Check.same("the first two", most.machine.peek(WORDS + 1), 2);
        word(most, 1, 0, 1, 3);
        Check.same("behind them", most.machine.peek(WORDS + 10), 99);
        Story none = story().bytes(WORDS, 0).bytes(WORDS + 1, 7, 99);
        ends(none, "a b c");
        Check.same("none", none.machine.peek(WORDS + 1), 0);
        Check.same("behind it", none.machine.peek(WORDS + 2), 99);
        Story empty = story().bytes(WORDS + 1, 7);
        ends(empty, "");
        Check.same("an empty line", empty.machine.peek(WORDS + 1), 0);
        Story spaces = story().bytes(WORDS + 1, 7);
        ends(spaces, "    ");
        Check.same("spaces alone", spaces.machine.peek(WORDS + 1), 0);
    }

    private static void readTwice() {
        Story story = story();
        story.bytes(Story.CODE + 6, 140, 255, 249);
        story.line("a b c");
        Check.same("first", story.machine.run(2), 0);
        Check.same("three", story.machine.peek(WORDS + 1), 3);
        story.line("de");
        Check.same("second", story.machine.run(1), 0);
        Check.same("one", story.machine.peek(WORDS + 1), 1);
        word(story, 0, 0, 2, 1);
        text(story, "de");
        story.bytes(Story.CODE, 228, Story.types("w"), TEXT / 256, TEXT % 256).line("f");
        Check.same("back", story.machine.run(1), 0);
        Check.same("too few numbers behind one that had enough", story.machine.run(1), 1);
        text(story, "de");
    }

    private static void separators() {
        Story story = story();
        ends(story, "a,bc..d ,");
        Check.same("seven", story.machine.peek(WORDS + 1), 7);
        int[][] due = {{1, 1}, {1, 2}, {2, 3}, {1, 5}, {1, 6}, {1, 7}, {1, 9}};
        for (int i = 0; i < due.length; i++) {
            word(story, i, 0, due[i][0], due[i][1]);
        }
        Story other = story();
        ends(other, "a!b");
        Check.same("! is none", other.machine.peek(WORDS + 1), 1);
        Story count = story().word(6, 100).bytes(100, 97).bytes(198, 6);
        ends(count, "bab");
        Check.same("how many there are is none", count.machine.peek(WORDS + 1), 1);
        Story many = story().bytes(WORDS, 24);
        many.line("........................");
        Check.same("24 words do not fit behind 440", many.machine.run(2), 1);
        Check.same("how many", many.machine.peek(WORDS + 1), 24);
        Check.same("the last that fits", many.machine.peek(WORDS + 2 + 4 * 16 + 3), 17);
    }

    private static void entries() {
        int[] lamp = Story.text(17, 6, 18, 21, 5, 5);
        int[] oil = Story.text(20, 14, 17, 5, 5, 5);
        Story story = story(oil, lamp, lamp);
        ends(story, "lamp oil lam lampo");
        word(story, 0, ENTRIES + 6, 4, 1);
        word(story, 1, ENTRIES, 3, 6);
        word(story, 2, 0, 3, 10);
        word(story, 3, 0, 5, 14);
        Story beyond = story(oil, lamp).bytes(Story.DICTIONARY + 5, 1);
        ends(beyond, "lamp oil");
        word(beyond, 0, 0, 4, 1);
        word(beyond, 1, ENTRIES, 3, 6);
        Story unmarked = story(new int[] {lamp[0], lamp[1], lamp[2] - 128, lamp[3]});
        ends(unmarked, "lamp");
        word(unmarked, 0, 0, 4, 1);
        Story five = story(lamp).bytes(Story.DICTIONARY + 3, 5).bytes(Story.DICTIONARY + 5, 2).bytes(ENTRIES + 5, oil);
        ends(five, "oil");
        word(five, 0, ENTRIES + 5, 3, 1);
    }

    private static void lettersOfWords() {
        found("abcdef", 6, 7, 8, 9, 10, 11);
        found("abcdefghi", 6, 7, 8, 9, 10, 11);
        found("z", 31, 5, 5, 5, 5, 5);
        found("a0b", 6, 5, 8, 7, 5, 5);
        found("9-)", 5, 17, 5, 28, 5, 31);
        found("abcde1", 6, 7, 8, 9, 10, 5);
        found("!?_", 5, 20, 5, 21, 5, 22);
        found("#'\"", 5, 23, 5, 24, 5, 25);
        found("/\\:", 5, 26, 5, 27, 5, 29);
        found("((", 5, 30, 5, 30, 5, 5);
        found(".", 5, 18, 5, 5, 5, 5);
        found(",", 5, 19, 5, 5, 5, 5);
        found("@", 5, 6, 2, 0, 5, 5);
        found("x~y", 29, 5, 6, 3, 30, 30);
        found("abc~y", 6, 7, 8, 5, 6, 3);
        found("$%", 5, 6, 1, 4, 5, 6);
        found("AbC", 6, 7, 8, 5, 5, 5);
        found("a`b", 6, 5, 6, 3, 0, 7);
        found("a{b", 6, 5, 6, 3, 27, 7);
    }

    private static void found(String text, int... letters) {
        Story story = story(Story.text(letters));
        ends(story, text);
        word(story, 0, ENTRIES, text.length(), 1);
    }

    private static void waiting() {
        Story story = new Story().bytes(FREE_TEXT, 9).bytes(FREE_WORDS, 0);
        story.begin(232, 127, FREE_WORDS, 232, 127, FREE_TEXT, 228, Story.types("vv"), 0, 0, Story.END);
        Check.same("waits", story.machine.run(9), 4);
        Check.same("numbers are not read", story.machine.stack(-1), 2);
        Check.same("waits again", story.machine.run(1), 4);
        Check.same("still there", story.machine.stack(-1), 2);
        story.line("x");
        Check.same("reads", story.machine.run(1), 0);
        Check.same("numbers are read", story.machine.stack(-1), 0);
        Check.same("to x", story.machine.peek(FREE_TEXT + 1), 'x');
        StoryMachine few = Story.of(228, 127, FREE_TEXT).machine;
        Check.same("too few numbers are not seen yet", few.run(1), 4);
        few.enter();
        Check.same("now they are", few.run(1), 1);
    }

    private static final int FREE_TEXT = 200;
    private static final int FREE_WORDS = 230;

    private static void badDictionaries() {
        Story shortEntries = story(Story.text(6, 5, 5, 5, 5, 5)).bytes(Story.DICTIONARY + 3, 4);
        shortEntries.line("a b");
        Check.same("entries of 4 bytes", shortEntries.machine.run(1), 1);
        text(shortEntries, "a b");
        Check.same("how many words was written before", shortEntries.machine.peek(WORDS + 1), 2);
        Story outside = story().word(6, 512);
        outside.line("a");
        Check.same("outside of the memory", outside.machine.run(1), 1);
        text(outside, "a");
        Story endless = story(Story.text(6, 5, 5, 5, 5, 5)).word(Story.DICTIONARY + 4, 65535);
        endless.line("a b");
        Check.same("entries up to the end", endless.machine.run(1), 1);
        word(endless, 0, ENTRIES, 1, 1);
        Story last = story().word(6, 502).bytes(502, 0, 5, 0, 1).bytes(506, Story.text(6, 5, 5, 5, 5, 5));
        ends(last, "a");
        word(last, 0, 506, 1, 1);
        Story cut = story().word(6, 505).bytes(505, 0, 5, 0, 1);
        cut.line("a");
        Check.same("an entry that is not all there", cut.machine.run(1), 1);
    }

    private static void badPlaces() {
        Story text = story().bytes(511, 3);
        text.bytes(Story.CODE, 228, Story.types("ww"), 1, 255, WORDS / 256, WORDS % 256);
        text.line("a");
        Check.same("characters behind the memory", text.machine.run(1), 1);
        Story base = story().word(12, TEXT + 3);
        base.line("abc");
        Check.same("characters behind the base", base.machine.run(1), 1);
        Check.same("the first one stays", base.machine.peek(TEXT + 1), 'a');
        Check.same("the second one stays", base.machine.peek(TEXT + 2), 'b');
        Check.same("the third one was not written", base.machine.peek(TEXT + 3), 0);
        Story zero = story().word(12, TEXT + 4).bytes(TEXT + 4, 9);
        zero.line("abc");
        Check.same("no room for the 0", zero.machine.run(1), 1);
        Check.same("the third one was written", zero.machine.peek(TEXT + 3), 'c');
        Story counts = story().word(12, WORDS + 1);
        counts.line("");
        Check.same("no room for the number of words", counts.machine.run(1), 1);
        text(counts, "");
        Story entry = story(Story.text(6, 5, 5, 5, 5, 5)).word(12, WORDS + 3);
        entry.line("a");
        Check.same("no room for an entry", entry.machine.run(1), 1);
        Check.same("the number is there", entry.machine.peek(WORDS + 1), 1);
        Check.same("no half of it", entry.machine.peek(WORDS + 2), 0);
    }
}
