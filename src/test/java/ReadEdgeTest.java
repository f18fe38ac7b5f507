/** Terms, READ: both sides of each edge, and what has changed. */
public final class ReadEdgeTest extends Edge {
    private static final int TEXT = 400;
    private static final int WORDS = 440;
    private static final String LONGEST = "abcdefghijklmnopqrstuvwx";

    public static void main(String[] args) {
        withNoLineItWaits();
        nothingHasChangedWhileItWaits();
        itWaitsBeforeNumbersAreRead();
        anEmptyLineIsALine();
        capitalsAreAsSmallLetters();
        theMostCharacters();
        theLongestLine();
        theMostWords();
        wordsStandBetweenSpaces();
        aSeparatorIsAWordByItself();
        wordsAreOfTheCharactersThatAreThere();
        charactersThatCannotBeWritten();
        wordsThatCannotBeWritten();
        theByteAtYIsReadBehindTheCharacters();
        aShorterLineBehindALongerOne();
        tooFewNumbers();
        Check.end();
    }

    private static int[] read(int x, int y) {
        return many(4, "ww", x, y);
    }

    /** A dictionary with the separators . and , and no entries, room for 30 characters and 15 words. */
    private static Story room() {
        return new Story().bytes(Story.DICTIONARY, 2, '.', ',', 6, 0, 0).bytes(TEXT, 30).bytes(WORDS, 15);
    }

    private static Story reading(Story story, String line, int... code) {
        return story.begin(code).line(line);
    }

    private static Answers text(Answers due, String text) {
        for (int i = 0; i < text.length(); i++) {
            due.bytes(TEXT + 1 + i, text.charAt(i));
        }
        return due.bytes(TEXT + 1 + text.length(), 0);
    }

    /** Words that have no entry: the length and the place of each. */
    private static Answers words(Answers due, int... lengthsAndPlaces) {
        due.bytes(WORDS + 1, lengthsAndPlaces.length / 2);
        for (int i = 0; i < lengthsAndPlaces.length; i += 2) {
            due.bytes(WORDS + 2 + 2 * i, 0, 0, lengthsAndPlaces[i], lengthsAndPlaces[i + 1]);
        }
        return due;
    }

    private static void reads(String line, String text, int... lengthsAndPlaces) {
        done("'" + line + "'", 6, () -> reading(room(), line, read(TEXT, WORDS)),
                due -> words(text(due, text), lengthsAndPlaces));
    }

    /** "(with none WAITING ..)" */
    private static void withNoLineItWaits() {
        trouble("no line", WAITING, read(TEXT, WORDS), ReadEdgeTest::room, NOTHING);
        trouble("typed, but not entered", WAITING, () -> {
            Story story = room().begin(read(TEXT, WORDS));
            story.machine.type('a', 1);
            return story;
        }, NOTHING);
        trouble("the line was read", WAITING, () -> {
            Story story = reading(room(), "a", join(read(TEXT, WORDS), read(TEXT, WORDS)));
            Check.same("read", story.machine.run(1), 0);
            return story;
        }, NOTHING);
        trouble("entered before it began", WAITING, () -> room().line("a").begin(read(TEXT, WORDS)), NOTHING);
    }

    /** "4 WAITING (nothing has changed; the step is tried anew in the next run)" */
    private static void nothingHasChangedWhileItWaits() {
        Story story = room().begin(join(none(4), read(TEXT, WORDS), none(10)));
        for (int i = 0; i < 3; i++) {
            Check.same("waits", story.machine.run(300), 4);
            Check.same("one step was done", story.machine.steps(), 1);
            Check.same("its place", story.machine.place(), CODE + 1);
        }
        story.line("ab");
        Check.same("one step, not the next", story.machine.run(1), 0);
        Check.same("two steps were done", story.machine.steps(), 2);
        Check.same("the line is there", story.machine.peek(TEXT + 2), 'b');
        Check.same("the story ends", story.machine.run(300), 5);
        Check.same("three steps were done", story.machine.steps(), 3);
    }

    /** "(with none WAITING, before numbers are read)" */
    private static void itWaitsBeforeNumbersAreRead() {
        trouble("numbers of the stack", WAITING, () -> withWords(room(), 2, many(4, "vv", TOP, TOP)), NOTHING);
        trouble("an empty stack", WAITING, many(4, "vv", TOP, TOP), ReadEdgeTest::room, NOTHING);
        trouble("a bad variable", WAITING, many(4, "vv", 48, 48), ReadEdgeTest::room, NOTHING);
        trouble("too few numbers", WAITING, many(4, "w", TEXT), ReadEdgeTest::room, NOTHING);
        trouble("bad places", WAITING, read(512, 512), ReadEdgeTest::room, NOTHING);
        trouble("an empty stack, with a line", STACK, () -> reading(room(), "a", many(4, "vv", TOP, TOP)), NOTHING);
        trouble("a bad variable, with a line", BAD, () -> reading(room(), "a", many(4, "vv", 48, 48)), NOTHING);
        trouble("bad places, with a line", BAD, () -> reading(room(), "a", read(512, 512)), NOTHING);
        trouble("the operation behind it does not wait", BAD, () -> room().begin(many(10, "ww", TEXT, WORDS)), NOTHING);
    }

    private static void anEmptyLineIsALine() {
        done("empty", 6, () -> reading(room().bytes(TEXT + 1, 9, 9).bytes(WORDS + 1, 9, 9), "", read(TEXT, WORDS)),
                due -> words(text(due, "")));
        done("empty, behind a longer one", 6, () -> reading(room(), "abc", read(TEXT, WORDS)).line(""),
                due -> words(text(due, "")));
    }

    /** "A to Z as a to z" */
    private static void capitalsAreAsSmallLetters() {
        reads("AZaz", "azaz", 4, 1);
        reads("@AZ[`az{", "@az[`az{", 8, 1);
    }

    private static void cut(int most, String line, String text, int... lengthsAndPlaces) {
        done(most + " of '" + line + "'", 6,
                () -> reading(room().bytes(TEXT, most).bytes(TEXT + 1, 9, 9, 9, 9, 9, 9, 9), line, read(TEXT, WORDS)),
                due -> words(text(due, text), lengthsAndPlaces));
    }

    /** "the byte at x says the most characters; these come behind it (cut off there), then a 0" */
    private static void theMostCharacters() {
        cut(0, "ab cd", "");
        cut(1, "ab cd", "a", 1, 1);
        cut(2, "ab cd", "ab", 2, 1);
        cut(3, "ab cd", "ab ", 2, 1);
        cut(4, "ab cd", "ab c", 2, 1, 1, 4);
        cut(5, "ab cd", "ab cd", 2, 1, 2, 4);
        cut(6, "ab cd", "ab cd", 2, 1, 2, 4);
        cut(255, "ab cd", "ab cd", 2, 1, 2, 4);
        cut(0, "", "");
        cut(1, "", "");
    }

    private static void theLongestLine() {
        reads(LONGEST.substring(1), LONGEST.substring(1), 23, 1);
        reads(LONGEST, LONGEST, 24, 1);
        cut(23, LONGEST, LONGEST.substring(0, 23), 23, 1);
        cut(24, LONGEST, LONGEST, 24, 1);
    }

    private static void most(int most, String line, int... lengthsAndPlaces) {
        done(most + " words of '" + line + "'", 6,
                () -> reading(room().bytes(WORDS, most).bytes(WORDS + 1, 9, 9, 9, 9, 9, 9, 9, 9, 9, 9), line,
                        read(TEXT, WORDS)), due -> words(text(due, line), lengthsAndPlaces));
    }

    /** "The byte at y says the most words; the next one becomes how many there are (the first ones, so many)" */
    private static void theMostWords() {
        most(0, "a b c");
        most(1, "a b c", 1, 1);
        most(2, "a b c", 1, 1, 1, 3);
        most(3, "a b c", 1, 1, 1, 3, 1, 5);
        most(4, "a b c", 1, 1, 1, 3, 1, 5);
        most(255, "a b c", 1, 1, 1, 3, 1, 5);
        most(255, "");
        done("24 words", 4, () -> reading(room().bytes(200, 30).bytes(100, 24), "........................",
                many(4, "bb", 200, 100)), due -> {
                    due.bytes(101, 24);
                    for (int i = 0; i < 24; i++) {
                        due.bytes(201 + i, '.').bytes(102 + 4 * i, 0, 0, 1, 1 + i);
                    }
                });
    }

    /** "Words are what stands between spaces in the characters" */
    private static void wordsStandBetweenSpaces() {
        reads("   ", "   ");
        reads("a", "a", 1, 1);
        reads(" a", " a", 1, 2);
        reads("a ", "a ", 1, 1);
        reads("  ab  cd  ", "  ab  cd  ", 2, 3, 2, 7);
        reads("a!b", "a!b", 3, 1);
    }

    /** "a separator is one by itself" */
    private static void aSeparatorIsAWordByItself() {
        reads(".", ".", 1, 1);
        reads("..", "..", 1, 1, 1, 2);
        reads(".a", ".a", 1, 1, 1, 2);
        reads("a.", "a.", 1, 1, 1, 2);
        reads("ab,cd", "ab,cd", 2, 1, 1, 3, 2, 4);
        reads("ab , cd", "ab , cd", 2, 1, 1, 4, 2, 6);
        reads(". .", ". .", 1, 1, 1, 3);
    }

    private static void wordsAreOfTheCharactersThatAreThere() {
        cut(3, "ab.cd", "ab.", 2, 1, 1, 3);
        cut(2, "ab.cd", "ab", 2, 1);
        cut(1, " ab", " ");
    }

    /** "bytes from there on .. cannot be written by the story": what was written before stays */
    private static void charactersThatCannotBeWritten() {
        done("all of them, the words from 100 on", 6,
                () -> reading(room().word(12, TEXT + 4).bytes(100, 1), "ab", read(TEXT, 100)),
                due -> text(due, "ab").bytes(101, 1, 0, 0, 2, 1));
        trouble("the 0 behind them", BAD, () -> reading(room().word(12, TEXT + 3).bytes(TEXT + 3, 9).bytes(100, 1), "ab",
                read(TEXT, 100)), due -> due.bytes(TEXT + 1, 'a', 'b'));
        trouble("the second one", BAD, () -> reading(room().word(12, TEXT + 2).bytes(100, 1), "ab", read(TEXT, 100)),
                due -> due.bytes(TEXT + 1, 'a'));
        trouble("the first one", BAD, () -> reading(room().word(12, TEXT + 1).bytes(100, 1), "ab", read(TEXT, 100)),
                NOTHING);
        trouble("the byte at x is not there", BAD, () -> reading(room(), "ab", read(512, WORDS)), NOTHING);
        trouble("the byte at x is the last one", BAD, () -> reading(room().bytes(511, 0), "ab", read(511, WORDS)),
                NOTHING);
        done("the 0 is the last byte", 6, () -> reading(room().bytes(510, 0).bytes(511, 9), "ab", read(510, WORDS)),
                due -> words(due.bytes(511, 0)));
        trouble("up to the end of the memory", BAD, () -> reading(room().bytes(509, 2), "ab", read(509, WORDS)),
                due -> due.bytes(510, 'a', 'b'));
        trouble("a byte of the head", BAD, () -> reading(room().bytes(14, 5), "ab", read(14, WORDS)), NOTHING);
        done("the byte at x is the last of the head", 6,
                () -> reading(room().word(10, 100).bytes(15, 5), "ab", read(15, WORDS)),
                due -> words(due.bytes(16, 'a', 'b', 0), 2, 1));
    }

    /** "the next one becomes how many there are .., then for each the word of its entry's place .., a byte .., and one .." */
    private static void wordsThatCannotBeWritten() {
        trouble("how many", BAD, () -> reading(room().word(12, WORDS + 1), "ab", read(TEXT, WORDS)),
                due -> text(due, "ab"));
        done("how many, and no more", 6, () -> reading(room().word(12, WORDS + 2), "", read(TEXT, WORDS)),
                due -> words(text(due, "")));
        trouble("the place of the first entry", BAD,
                () -> reading(room().word(12, WORDS + 3).bytes(WORDS + 2, 9), "ab", read(TEXT, WORDS)),
                due -> text(due, "ab").bytes(WORDS + 1, 1));
        trouble("the length of the first word", BAD,
                () -> reading(room().word(12, WORDS + 4).bytes(WORDS + 2, 9, 9, 9, 9), "ab", read(TEXT, WORDS)),
                due -> text(due, "ab").bytes(WORDS + 1, 1, 0, 0));
        trouble("the place of the first word", BAD,
                () -> reading(room().word(12, WORDS + 5).bytes(WORDS + 2, 9, 9, 9, 9), "ab", read(TEXT, WORDS)),
                due -> text(due, "ab").bytes(WORDS + 1, 1, 0, 0, 2));
        done("the first word, all of it", 6,
                () -> reading(room().word(12, WORDS + 6).bytes(WORDS + 2, 9, 9, 9, 9), "ab", read(TEXT, WORDS)),
                due -> words(text(due, "ab"), 2, 1));
        trouble("the second word", BAD, () -> reading(room().word(12, WORDS + 6), "ab c", read(TEXT, WORDS)),
                due -> words(text(due, "ab c"), 2, 1).bytes(WORDS + 1, 2));
    }

    /** "The byte at y says the most words": when the characters and the 0 are there */
    private static void theByteAtYIsReadBehindTheCharacters() {
        trouble("it is not there", BAD, () -> reading(room(), "ab", read(TEXT, 512)), due -> text(due, "ab"));
        trouble("it is the last one", BAD, () -> reading(room().bytes(511, 3), "ab", read(TEXT, 511)),
                due -> text(due, "ab"));
        done("it and how many are the last ones", 6, () -> reading(room().bytes(510, 0).bytes(511, 9), "ab",
                read(TEXT, 510)), due -> text(due, "ab").bytes(511, 0));
        done("it is the 0 behind the characters", 6, () -> reading(room(), "ab", read(TEXT, TEXT + 3)),
                due -> text(due, "ab").bytes(TEXT + 4, 0));
    }

    private static void aShorterLineBehindALongerOne() {
        done("the second line", 6, () -> {
            Story story = reading(room(), "ab cd ef", join(read(TEXT, WORDS), read(TEXT, WORDS)));
            Check.same("the first line", story.machine.run(1), 0);
            return story.line("g.");
        }, due -> words(text(due, "g."), 1, 1, 1, 2));
    }

    /** "an operation that .. has too few numbers, is bad (what it has too many is of no matter)" */
    private static void tooFewNumbers() {
        trouble("none", BAD, () -> reading(room(), "ab", many(4, "")), NOTHING);
        trouble("one", BAD, () -> reading(room(), "ab", many(4, "w", TEXT)), NOTHING);
        done("three", 7, () -> reading(room(), "ab", many(4, "wwb", TEXT, WORDS, 7)),
                due -> words(text(due, "ab"), 2, 1));
        done("four", 8, () -> reading(room(), "ab", many(4, "wwbb", TEXT, WORDS, 7, 7)),
                due -> words(text(due, "ab"), 2, 1));
    }
}
