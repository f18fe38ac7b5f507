/** Terms, TEXT: both sides of each edge, and what has been put out. */
public final class TextEdgeTest extends Edge {
    private static final String FIRST = "abcdefghijklmnopqrstuvwxyz";
    private static final String SECOND = "ABCDEFGHIJKLMNOPQRSTUVWXYZ";
    /** From letter 8 on: 48 to 57, then 46 44 33 63 95 35 39 34 47 92 45 58 40 41. */
    private static final int[] THIRD = {48, 49, 50, 51, 52, 53, 54, 55, 56, 57,
        46, 44, 33, 63, 95, 35, 39, 34, 47, 92, 45, 58, 40, 41};

    public static void main(String[] args) {
        bit15IsInTheLastWord();
        lettersAreFromBit14On();
        eachLetterOfEachAlphabet();
        letters0To5();
        theNextLetterOnly();
        aCharacterIsTakenModulo256();
        whatIsNotFinishedIsNothing();
        textThatIsNotAllThere();
        textAtX();
        textAt2X();
        textBehindTheInstruction();
        textThatReturns();
        Check.end();
    }

    private static void puts(String what, String due, int... letters) {
        done(what, first(7, 400), () -> new Story().bytes(400, Story.text(letters)), answers -> answers.puts(due));
    }

    private static int word(int one, int two, int three) {
        return one << 10 | two << 5 | three;
    }

    /** "bit 15 is 1 in the last word" */
    private static void bit15IsInTheLastWord() {
        int abc = word(6, 7, 8);
        done("in the first", first(7, 400), () -> new Story().word(400, 32768 + abc).word(402, 32768 + abc),
                due -> due.puts("abc"));
        done("in the second", first(7, 400), () -> new Story().word(400, abc).word(402, 32768 + abc),
                due -> due.puts("abcabc"));
        done("bit 14 is not it", first(7, 400), () -> new Story().word(400, 32767).word(402, 32768 + abc),
                due -> due.puts("zzzabc"));
        done("in the third", first(7, 400), () -> new Story().word(400, abc).word(402, abc).word(404, 32768 + abc),
                due -> due.puts("abcabcabc"));
    }

    /** "three LETTERS of five bits (from bit 14 on)" */
    private static void lettersAreFromBit14On() {
        done("the highest first", first(7, 400), () -> new Story().word(400, 32768 + word(31, 6, 7)),
                due -> due.puts("zab"));
        done("all bits", first(7, 400), () -> new Story().word(400, 65535), due -> due.puts("zzz"));
        done("no bits but the last word's", first(7, 400), () -> new Story().word(400, 32768), due -> due.puts("   "));
    }

    /** "6 to 31: of the first alphabet a (97) to z, of the second A (65) to Z, of the third .. 8 to 31 the characters .." */
    private static void eachLetterOfEachAlphabet() {
        for (int letter = 6; letter <= 31; letter++) {
            puts("letter " + letter, FIRST.substring(letter - 6, letter - 5), letter, 5, 5);
            puts("letter 4 " + letter, SECOND.substring(letter - 6, letter - 5), 4, letter, 5);
            if (letter >= 8) {
                puts("letter 5 " + letter, String.valueOf((char) THIRD[letter - 8]), 5, letter, 5);
            }
        }
        puts("letter 5 7 is a new line", "\r", 5, 7, 5);
        puts("letter 5 6 is a character", "\u0042", 5, 6, 2, 2, 5, 5);
    }

    /** "0 is a space (32); 4 and 5: the next letter ..; 1 to 3 nothing" */
    private static void letters0To5() {
        puts("0", " a", 0, 6, 5);
        puts("1", "a", 1, 6, 5);
        puts("2", "a", 2, 6, 5);
        puts("3", "a", 3, 6, 5);
        puts("4", "A", 4, 6, 5);
        puts("5", "0", 5, 8, 5);
    }

    /** "the next letter only is of the second, third alphabet" */
    private static void theNextLetterOnly() {
        puts("4", "AaB", 4, 6, 6, 4, 7);
        puts("5", "0c1", 5, 8, 8, 5, 9);
        puts("4 over two words", "abAb", 6, 7, 4, 6, 7);
        puts("5 over two words", "ab0b", 6, 7, 5, 8, 7);
        puts("4 before a space", " a", 4, 0, 6);
        puts("5 before a space", " a", 5, 0, 6);
        puts("4 before nothing", "a", 4, 1, 6);
        puts("5 before nothing", "a", 5, 3, 6);
        puts("4 before 5", "0a", 4, 5, 8, 6, 5, 5);
        puts("5 before 4", "Aa", 5, 4, 6, 6, 5, 5);
        puts("the first alphabet again after a character", "Ba", 5, 6, 2, 2, 6, 5);
    }

    /** "6 a CHARACTER, told by the next two letters (the first one 32 times, modulo 256)" */
    private static void aCharacterIsTakenModulo256() {
        puts("0", "\u0000", 5, 6, 0, 0, 5, 5);
        puts("31", "\u001f", 5, 6, 0, 31, 5, 5);
        puts("32", "\u0020", 5, 6, 1, 0, 5, 5);
        puts("255", "\u00ff", 5, 6, 7, 31, 5, 5);
        puts("256", "\u0000", 5, 6, 8, 0, 5, 5);
        puts("257", "\u0001", 5, 6, 8, 1, 5, 5);
        puts("1023", "\u00ff", 5, 6, 31, 31, 5, 5);
        puts("its letters are no letters", "\u0084\u00a5", 5, 6, 4, 4, 5, 6, 5, 5, 5);
        puts("over three words", "ab\u0042", 6, 7, 5, 6, 2, 2);
    }

    /** "What is not finished at the end is nothing." */
    private static void whatIsNotFinishedIsNothing() {
        puts("4", "ab", 6, 7, 4);
        puts("5", "ab", 6, 7, 5);
        puts("5 6", "a", 6, 5, 6);
        puts("5 6 2", "", 5, 6, 2);
        puts("5 6 2 2 is finished", "\u0042", 5, 6, 2, 2, 5, 5);
        int[][] unfinished = {{6, 7, 4}, {6, 7, 5}, {6, 5, 6}, {5, 6, 2}};
        String[] before = {"ab", "ab", "a", ""};
        for (int i = 0; i < unfinished.length; i++) {
            int[] letters = unfinished[i];
            String due = before[i] + "abc";
            int[] twice = join(none(2, Story.text(letters)), none(2, Story.text(6, 7, 8)));
            Story story = new Story().begin(twice);
            Check.same("two texts", story.machine.run(2), 0);
            Check.isTrue("the next text begins anew: " + story.text(), story.text().equals(due));
        }
    }

    /** "To read a .. word that is not all there .. is BAD", and what was put out before stays so. */
    private static void textThatIsNotAllThere() {
        int abc = word(6, 7, 8);
        done("it ends with the memory", first(7, 508), () -> new Story().word(508, abc).word(510, 32768 + abc),
                due -> due.puts("abcabc"));
        trouble("it has no end", BAD, first(7, 508), () -> new Story().word(508, abc).word(510, abc),
                due -> due.puts("abcabc"));
        trouble("its last word is not all there", BAD, first(7, 509), () -> new Story().word(509, abc).bytes(511, 255),
                due -> due.puts("abc"));
        trouble("a character is not finished", BAD, first(7, 510), () -> new Story().word(510, word(6, 5, 6)),
                due -> due.puts("a"));
    }

    /** "7 the text at x is put out" */
    private static void textAtX() {
        int[] text = Story.text(6);
        done("at 0", first(7, 0), () -> new Story().bytes(0, text), due -> due.puts("a"));
        done("at 510", first(7, 510), () -> new Story().bytes(510, text), due -> due.puts("a"));
        bad("at 511", first(7, 511), () -> new Story().bytes(511, 255));
        bad("at 512", first(7, 512));
        bad("at 65535", first(7, 65535), () -> new Story().bytes(0, text));
        done("at 255 by a byte", new int[] {151, 255}, () -> new Story().bytes(255, text), due -> due.puts("a"));
    }

    /** "13 the text at 2 x is put out" */
    private static void textAt2X() {
        int[] text = Story.text(6);
        done("at 0", first(13, 0), () -> new Story().bytes(0, text), due -> due.puts("a"));
        done("at 400", first(13, 200), () -> new Story().bytes(400, text), due -> due.puts("a"));
        done("at 510", first(13, 255), () -> new Story().bytes(510, text), due -> due.puts("a"));
        bad("at 512", first(13, 256), () -> new Story().bytes(256, text));
        bad("at 131070", first(13, 65535));
    }

    private static Story at(int place, int... code) {
        Story story = new Story().word(4, place).bytes(place, code);
        story.machine.begin();
        return story;
    }

    /** "2 the text behind it is put out, it goes on behind that" */
    private static void textBehindTheInstruction() {
        done("one word", none(2, Story.text(6)), Story::new, due -> due.puts("a"));
        done("two words", none(2, Story.text(6, 7, 8, 9)), Story::new, due -> due.puts("abcd"));
        int[] text = none(2, Story.text(6));
        done("up to the end of the memory", 3, () -> at(509, text), due -> due.puts("a"));
        trouble("there is nothing behind it", BAD, () -> {
            Story story = at(509, text);
            story.machine.run(1);
            return story;
        }, NOTHING);
        trouble("half a word", BAD, () -> at(510, 178, 255), NOTHING);
        trouble("no word", BAD, () -> at(511, 178), NOTHING);
        trouble("it has no end", BAD, () -> at(509, 178, Story.high(word(6, 7, 8)), Story.low(word(6, 7, 8))),
                due -> due.puts("abc"));
    }

    /** "3 likewise, then a new line, returns 1" */
    private static void textThatReturns() {
        int[] text = none(3, Story.text(6, 7));
        done("in a routine", 0, () -> withRoutines(new Story(), 1, text), due -> {
            due.puts("ab\r").global(G1, 1).routines = 0;
            due.place = CODE + 4;
        });
        done("it returns once", 0, () -> {
            int[] branches = {144, 0, 192 + 2};
            Story story = withRoutines(new Story(), 3, join(branches, text));
            Check.same("it branches before that", story.machine.run(1), 0);
            return story;
        }, due -> {
            due.puts("ab\r").global(G1, 1).routines = 2;
            due.place = ROUTINE + 5;
        });
        Story aside = withRoutines(new Story(), 1, text).bytes(CODE + 4, Story.RESTORE, 192);
        Check.same("it returns, and nothing was put aside", aside.machine.run(2), 0);
        Check.same("so it is false", aside.machine.place(), CODE + 6);
        trouble("in the story", BAD, text, Story::new, due -> due.puts("ab\r"));
        trouble("no end: no new line, and it does not return", BAD, () -> {
            Story story = withRoutines(new Story(), 1, first(12, 509 - (ROUTINE + 4) + 2));
            story.bytes(509, 179, Story.high(word(6, 7, 8)), Story.low(word(6, 7, 8)));
            story.machine.run(1);
            return story;
        }, due -> due.puts("abc"));
    }
}
