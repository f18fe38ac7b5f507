import java.util.function.Supplier;

/** Terms, THE DICTIONARY: both sides of each edge, and what has changed. */
public final class DictionaryEdgeTest extends Edge {
    private static final int TEXT = 400;
    private static final int WORDS = 440;
    private static final int AT = Story.DICTIONARY;

    public static void main(String[] args) {
        anEntryHas5BytesOrMore();
        itsLengthIsLookedAtForAWord();
        howManyEntriesThereAre();
        theFirstEntryThatHasThese();
        separatorsThatThereAre();
        lettersAToZ();
        lettersOfTheThirdAlphabet();
        otherCharacters();
        theFirstSixLetters();
        fiveForThoseMissing();
        textOfTwoWords();
        dictionariesThatAreNotAllThere();
        entriesThatAreNotAllThere();
        Check.end();
    }

    /** A story with a line entered that waits to be read. */
    private static Story reading(Story story, String line) {
        return story.bytes(TEXT, 30).bytes(WORDS, 4).begin(many(4, "ww", TEXT, WORDS)).line(line);
    }

    /** A dictionary without separators whose entries have so many bytes. */
    private static Story entries(int size, int[]... entries) {
        Story story = new Story().bytes(AT, 0, size).word(AT + 2, entries.length);
        for (int i = 0; i < entries.length; i++) {
            story.bytes(AT + 4 + size * i, entries[i]);
        }
        return story;
    }

    private static Answers read(Answers due, String text) {
        for (int i = 0; i < text.length(); i++) {
            due.bytes(TEXT + 1 + i, text.charAt(i));
        }
        return due.bytes(TEXT + 1 + text.length(), 0);
    }

    /** The line is one word, and its entry is found there; 0 for none. */
    private static void found(String what, int entry, String line, Supplier<Story> story) {
        done(what + ", " + line, 6, () -> reading(story.get(), line), due -> read(due, line)
                .bytes(WORDS + 1, 1, Story.high(entry), Story.low(entry), line.length(), 1));
    }

    private static void found(String line, int... letters) {
        found("entry", AT + 4, line, () -> entries(6, Story.text(letters)));
    }

    private static void notFound(String line, int... letters) {
        found("no entry", 0, line, () -> entries(6, Story.text(letters)));
    }

    private static int[] a() {
        return Story.text(6, 5, 5, 5, 5, 5);
    }

    private static int[] b() {
        return Story.text(7, 5, 5, 5, 5, 5);
    }

    /** "a byte for the length of an ENTRY (5 or more, otherwise bad)" */
    private static void anEntryHas5BytesOrMore() {
        for (int size : new int[] {5, 6, 40}) {
            found(size + " bytes", AT + 4, "a", () -> entries(size, a(), b()));
            found(size + " bytes", AT + 4 + size, "b", () -> entries(size, a(), b()));
        }
        found("255 bytes", 50 + 4 + 255, "b", () -> new Story().word(6, 50).bytes(50, 0, 255, 0, 2)
                .bytes(54, a()).bytes(54 + 255, b()));
        for (int size : new int[] {0, 1, 4}) {
            trouble(size + " bytes", BAD, () -> reading(entries(size, a()), "a"),
                    due -> read(due, "a").bytes(WORDS + 1, 1));
            trouble(size + " bytes, no entry", BAD, () -> reading(entries(size), "a"),
                    due -> read(due, "a").bytes(WORDS + 1, 1));
        }
    }

    private static void itsLengthIsLookedAtForAWord() {
        done("4 bytes and no word", 6, () -> reading(entries(4), ""), due -> read(due, ""));
        done("4 bytes and room for no word", 6, () -> reading(entries(4), "a").bytes(WORDS, 0), due -> read(due, "a"));
        done("outside of the memory and no word", 6, () -> reading(new Story().word(6, 512), "  "),
                due -> read(due, "  "));
    }

    /** "a word for how many entries there are" */
    private static void howManyEntriesThereAre() {
        found("none", 0, "a", () -> entries(6, a(), b()).word(AT + 2, 0));
        found("one, the first", AT + 4, "a", () -> entries(6, a(), b()).word(AT + 2, 1));
        found("one, the second", 0, "b", () -> entries(6, a(), b()).word(AT + 2, 1));
        found("two, the second", AT + 10, "b", () -> entries(6, a(), b()).word(AT + 2, 2));
        found("256 + 1, it is a word", AT + 10, "b", () -> entries(6, a(), b()).word(AT + 2, 257));
        found("65535, it has no sign", AT + 10, "b", () -> entries(6, a(), b()).word(AT + 2, 65535));
    }

    /** "the first entry that has these" */
    private static void theFirstEntryThatHasThese() {
        found("two", AT + 10, "a", () -> entries(6, b(), a(), a()));
        found("its other bytes are of no matter", AT + 4, "a", () -> entries(6, a()).bytes(AT + 8, 255, 255));
        done("of two words", 6, () -> reading(entries(6, b(), a()), "a b"), due -> read(due, "a b")
                .bytes(WORDS + 1, 2).word(WORDS + 2, AT + 10).bytes(WORDS + 4, 1, 1)
                .word(WORDS + 6, AT + 4).bytes(WORDS + 8, 1, 3));
        done("of a longer word and a shorter one", 6, () -> reading(entries(6, b()), "abcdefg b"),
                due -> read(due, "abcdefg b")
                        .bytes(WORDS + 1, 2, 0, 0, 7, 1, Story.high(AT + 4), Story.low(AT + 4), 1, 9));
        found("the first word alone", 0, "a", () -> entries(6, Story.text(6, 5, 5, 5, 5, 6)));
        found("the second word alone", 0, "a", () -> entries(6, Story.text(7, 5, 5, 5, 5, 5)));
    }

    private static void words(String what, int due, int[] separators, String line) {
        Story story = new Story().bytes(AT, separators).bytes(TEXT, 30).bytes(WORDS, 15);
        story.bytes(AT + 1 + separators[0], 6, 0, 0).begin(many(4, "ww", TEXT, WORDS)).line(line);
        Check.same(what + ": run", story.machine.run(1), 0);
        Check.same(what + ": words", story.machine.peek(WORDS + 1), due);
    }

    /** "a byte n, n SEPARATORS" */
    private static void separatorsThatThereAre() {
        words("none", 1, new int[] {0}, "a.b,c");
        words("one", 3, new int[] {1, '.'}, "a.b,c");
        words("two", 5, new int[] {2, '.', ','}, "a.b,c");
        words("the first of three", 3, new int[] {3, 'x', 'y', 'z'}, "axb");
        words("the last of three", 3, new int[] {3, 'x', 'y', 'z'}, "azb");
        words("how many is none of them", 1, new int[] {'!', 'x'}, "a!b");
        Story behind = entries('!', a()).bytes(TEXT, 30).bytes(WORDS, 15);
        behind.begin(many(4, "ww", TEXT, WORDS)).line("a!b");
        Check.same("the byte behind the last separator: run", behind.machine.run(1), 0);
        Check.same("it is none", behind.machine.peek(WORDS + 1), 1);
        words("a space is no word", 2, new int[] {1, ' '}, "a b");
    }

    /** "a to z as they are" */
    private static void lettersAToZ() {
        found("a", 6, 5, 5, 5, 5, 5);
        found("z", 31, 5, 5, 5, 5, 5);
        found("`", 5, 6, 3, 0, 5, 5);
        found("{", 5, 6, 3, 27, 5, 5);
        notFound("a", 7, 5, 5, 5, 5, 5);
        done("A is a", 6, () -> reading(entries(6, a()), "A"), due -> read(due, "a")
                .bytes(WORDS + 1, 1, Story.high(AT + 4), Story.low(AT + 4), 1, 1));
    }

    /** "those of the third alphabet from 8 on as 5 and theirs" */
    private static void lettersOfTheThirdAlphabet() {
        String third = "0123456789.,!?_#'\"/\\-:()";
        for (int i = 0; i < third.length(); i++) {
            found(third.substring(i, i + 1), 5, 8 + i, 5, 5, 5, 5);
        }
    }

    /** "others as 5, 6, character / 32, character modulo 32" */
    private static void otherCharacters() {
        for (char other : "$%&*+;<=>@[]^`{|}~".toCharArray()) {
            found(String.valueOf(other), 5, 6, other / 32, other % 32, 5, 5);
        }
        found("a~", 6, 5, 6, 3, 30, 5);
        found("ab~", 6, 7, 5, 6, 3, 30);
    }

    /** "the first six of them" */
    private static void theFirstSixLetters() {
        found("abcdef", 6, 7, 8, 9, 10, 11);
        found("abcdefg", 6, 7, 8, 9, 10, 11);
        found("abcdefghijklmnopqrstuvwx", 6, 7, 8, 9, 10, 11);
        notFound("abcdeg", 6, 7, 8, 9, 10, 11);
        notFound("abcde", 6, 7, 8, 9, 10, 11);
        found("abcd1", 6, 7, 8, 9, 5, 9);
        found("abcde1", 6, 7, 8, 9, 10, 5);
        found("abc~", 6, 7, 8, 5, 6, 3);
        found("abcd~", 6, 7, 8, 9, 5, 6);
        found("abcde~", 6, 7, 8, 9, 10, 5);
        found("123", 5, 9, 5, 10, 5, 11);
        found("1234", 5, 9, 5, 10, 5, 11);
    }

    /** "with 5 for those missing" */
    private static void fiveForThoseMissing() {
        found("abcde", 6, 7, 8, 9, 10, 5);
        found("abcd", 6, 7, 8, 9, 5, 5);
        found("abc", 6, 7, 8, 5, 5, 5);
        found("ab", 6, 7, 5, 5, 5, 5);
        notFound("ab", 6, 7, 0, 0, 0, 0);
        notFound("ab", 6, 7, 5, 5, 5, 4);
    }

    /** "as text of two words": "bit 15 is 1 in the last word" */
    private static void textOfTwoWords() {
        int[] text = a();
        found("bit 15 in neither", 0, "a", () -> entries(6, new int[] {text[0], text[1], text[2] - 128, text[3]}));
        found("bit 15 in both", 0, "a", () -> entries(6, new int[] {text[0] + 128, text[1], text[2], text[3]}));
        found("bit 15 in the last", AT + 4, "a", () -> entries(6, text));
    }

    /** "To read a byte or word that is not all there .. is BAD": the dictionary's */
    private static void dictionariesThatAreNotAllThere() {
        trouble("at 512", BAD, () -> reading(new Story().word(6, 512), "a"), due -> read(due, "a"));
        trouble("at 65535", BAD, () -> reading(new Story().word(6, 65535), "a"), due -> read(due, "a"));
        trouble("separators up to the end", BAD, () -> reading(new Story().word(6, 510).bytes(510, 2, '.'), "a"),
                due -> read(due, "a"));
        trouble("no length of an entry", BAD, () -> reading(new Story().word(6, 511), "a"),
                due -> read(due, "a").bytes(WORDS + 1, 1));
        trouble("half of how many", BAD, () -> reading(new Story().word(6, 509).bytes(509, 0, 5, 0), "a"),
                due -> read(due, "a").bytes(WORDS + 1, 1));
        found("no entries, at the end", 0, "a", () -> new Story().word(6, 508).bytes(508, 0, 5, 0, 0));
    }

    /** "To read a .. word that is not all there .. is BAD": an entry's */
    private static void entriesThatAreNotAllThere() {
        found("its four bytes are the last ones", 508, "a",
                () -> new Story().word(6, 504).bytes(504, 0, 5, 0, 1).bytes(508, a()));
        found("another's four bytes are the last ones", 0, "a",
                () -> new Story().word(6, 504).bytes(504, 0, 5, 0, 1).bytes(508, b()));
        trouble("three bytes", BAD, () -> reading(new Story().word(6, 505).bytes(505, 0, 5, 0, 1)
                .bytes(509, a()[0], a()[1], a()[2]), "a"), due -> read(due, "a").bytes(WORDS + 1, 1));
        trouble("a second one that is not there", BAD,
                () -> reading(new Story().word(6, 504).bytes(504, 0, 5, 0, 2).bytes(508, a()), "b"),
                due -> read(due, "b").bytes(WORDS + 1, 1));
        found("a second one that is not needed", 508, "a",
                () -> new Story().word(6, 504).bytes(504, 0, 5, 0, 2).bytes(508, a()));
    }
}
