import java.util.function.Supplier;

/** Terms, VARIABLES: both sides of each edge, and what has changed. */
public final class VariableEdgeTest extends Edge {
    private static final int PUSH = 8;
    private static final int PULL = 9;

    public static void main(String[] args) {
        theTopGoesWhenItIsReadAndWhatIsWrittenIsPutOnIt();
        atMost48Words();
        allRoutinesTogether();
        aLocalThatItDoesNotHaveIsBad();
        locals15AndTheStory();
        globals16To47();
        above47IsBadWhenNamedByANumber();
        wordsOfTheGlobalsThatAreNotAllThere();
        wordsOfTheGlobalsThatCannotBeWritten();
        readingOneMoreIsAnEmptyStack();
        aRoutineHasNoWordsOfItsCaller();
        namedByANumberTheTopStays();
        namedByANumberAnEmptyStackIsEmpty();
        namedByANumberAFullStackIsNoMatter();
        pullingIntoTheTop();
        Check.end();
    }

    /** "0 the top of the STACK (it goes when it is read; what is written is put on it ..)" */
    private static void theTopGoesWhenItIsReadAndWhatIsWrittenIsPutOnIt() {
        done("read", 4, () -> withWords(new Story(), 2, 20 + 64, TOP, 5, G0), due -> due.pop().global(G0, 7));
        done("read twice", 4, () -> withWords(new Story(), 2, 21 + 96, TOP, TOP, G0),
                due -> due.pop().pop().global(G0, 1));
        done("written", 4, () -> withWords(new Story(), 2, 20, 3, 4, TOP), due -> due.push(7));
        done("read and written", 4, () -> withWords(new Story(), 2, 20 + 64, TOP, 5, TOP), due -> due.pop().push(7));
    }

    /** "at most 48 words": the 48th and one too many, by each way that a word comes on the stack */
    private static void atMost48Words() {
        int[][] codes = {
            many(PUSH, "b", 77), {20, 70, 7, TOP}, {8, 77, 77, TOP}, first(15, 65535 - 77, TOP), first(14, G0, TOP),
            {20 + 64, G0, 0, TOP}};
        for (int[] code : codes) {
            String what = "operation byte " + code[0];
            Supplier<Story> set = () -> new Story().word(GLOBALS, 77);
            done(what + ", the 48th", code.length, () -> withWords(set.get(), 47, code), due -> due.push(77));
            trouble(what + ", one too many", STACK, () -> withWords(set.get(), 48, code), NOTHING);
        }
        int[] callNothing = many(0, "b", 0, TOP);
        done("0 of no routine, the 48th", callNothing.length, () -> withWords(new Story(), 47, callNothing),
                due -> due.push(0));
        trouble("0 of no routine, one too many", STACK, () -> withWords(new Story(), 48, callNothing), NOTHING);
        done("a word goes first", 4, () -> withWords(new Story(), 48, 20 + 64, TOP, 5, TOP), due -> due.pop().push(53));
        done("the global and the child, the 48th", 4, () -> withWords(objectWithChild(), 47, 146, 1, TOP, 64),
                due -> due.push(2));
        trouble("the child, one too many", STACK, () -> withWords(objectWithChild(), 48, 146, 1, TOP, BY_TRUE), NOTHING);
    }

    private static Story objectWithChild() {
        return new Story().bytes(Story.OBJECTS + 14 + 6, 2);
    }

    /** "at most 48 words, all routines together" */
    private static void allRoutinesTogether() {
        int[] push = many(PUSH, "b", 9);
        done("the 48th in a routine", 3, () -> routineAbove(47, 0, push), due -> due.push(9));
        trouble("one too many in a routine", STACK, () -> routineAbove(48, 0, push), NOTHING);
        done("the 48th, the routine's second", 3, () -> routineAbove(46, 1, push), due -> due.push(9));
        trouble("one too many, the routine's second", STACK, () -> routineAbove(47, 1, push), NOTHING);
    }

    /** The story has some words; a routine that it called has pushed some 9s and goes on with this code. */
    private static Story routineAbove(int storyWords, int routineWords, int... code) {
        Story story = withWords(new Story(), storyWords, 224, 127, ROUTINE / 2, G0);
        story.bytes(ROUTINE, 0);
        for (int i = 0; i < routineWords; i++) {
            story.bytes(ROUTINE + 1 + 3 * i, many(PUSH, "b", 9));
        }
        story.bytes(ROUTINE + 1 + 3 * routineWords, code);
        Check.same("the routine is called", story.machine.run(1 + routineWords), 0);
        return story;
    }

    /** "1 .. 15 the LOCALS of the routine (one that it does not have is bad)" */
    private static void aLocalThatItDoesNotHaveIsBad() {
        for (int locals : new int[] {1, 3, 14}) {
            int last = locals;
            done("read the last of " + last, 4, () -> withLocals(new Story(), last, 20 + 64, last, 5, G0),
                    due -> due.global(G0, 105 + last));
            trouble("read behind the last of " + last, BAD,
                    () -> withLocals(new Story(), last, 20 + 64, last + 1, 5, G0), NOTHING);
            done("write the last of " + last, 4, () -> withLocals(new Story(), last, 20, 4, 5, last),
                    due -> due.locals[last - 1] = 9);
            trouble("write behind the last of " + last, BAD,
                    () -> withLocals(new Story(), last, 20, 4, 5, last + 1), NOTHING);
            done("name the last of " + last, 3, () -> withLocals(new Story(), last, 13, last, 9),
                    due -> due.locals[last - 1] = 9);
            trouble("name behind the last of " + last, BAD,
                    () -> withLocals(new Story(), last, 13, last + 1, 9), NOTHING);
        }
    }

    private static void locals15AndTheStory() {
        done("read 15", 4, () -> withLocals(new Story(), 15, 20 + 64, 15, 5, G0), due -> due.global(G0, 120));
        done("write 15", 4, () -> withLocals(new Story(), 15, 20, 4, 5, 15), due -> due.locals[14] = 9);
        done("write 1 of 15", 4, () -> withLocals(new Story(), 15, 20, 4, 5, 1), due -> due.locals[0] = 9);
        done("16 is no local", 4, () -> withLocals(new Story(), 15, 20, 4, 5, 16), due -> due.global(G0, 9));
        for (int variable : new int[] {1, 15}) {
            bad("the story reads " + variable, new int[] {20 + 64, variable, 5, G0});
            bad("the story writes " + variable, new int[] {20, 4, 5, variable});
            trouble("a routine without locals reads " + variable, BAD,
                    () -> withLocals(new Story(), 0, 20 + 64, variable, 5, G0), NOTHING);
            trouble("a routine without locals writes " + variable, BAD,
                    () -> withLocals(new Story(), 0, 20, 4, 5, variable), NOTHING);
        }
        done("the story reads 16", new int[] {20 + 64, 16, 5, TOP}, Story::new, due -> due.push(5));
    }

    /** "16 .. 47 the words of the globals, 48 and above are bad" */
    private static void globals16To47() {
        for (int variable : new int[] {16, 17, 46, 47}) {
            int place = GLOBALS + 2 * (variable - 16);
            done("read " + variable, new int[] {20 + 64, variable, 5, TOP}, () -> new Story().word(place, 0x1234),
                    due -> due.push(0x1239));
            done("write " + variable, second(20, "ww", 0x1234, 1, variable), Story::new,
                    due -> due.word(place, 0x1235));
            done("name " + variable, second(13, "bw", variable, 0x1234), Story::new, due -> due.word(place, 0x1234));
        }
        for (int variable : new int[] {48, 49, 128, 255}) {
            bad("read " + variable, new int[] {20 + 64, variable, 5, TOP});
            bad("write " + variable, new int[] {20, 4, 5, variable});
        }
    }

    /** A number that names a variable is 0 .. 65535, not taken modulo 256. */
    private static void above47IsBadWhenNamedByANumber() {
        for (int variable : new int[] {48, 255, 256, 256 + 16, 65535, 65536 - 240}) {
            bad("falls and asks, " + variable, second(4, "ww", variable, 0, BY_TRUE));
            bad("rises and asks, " + variable, second(5, "ww", variable, 0, BY_TRUE));
            bad("becomes, " + variable, second(13, "ww", variable, 7));
            bad("rises, " + variable, first(5, variable));
            bad("falls, " + variable, first(6, variable));
            bad("its value, " + variable, first(14, variable, G0));
            int[] pull = many(PULL, "w", variable);
            trouble("pulls, " + variable, BAD, () -> withWords(new Story(), 1, pull), due -> due.pop());
        }
        done("falls and asks, 47", second(4, "ww", 47, 1, BY_TRUE), Story::new,
                due -> due.global(47, 65535).place += BRANCHED);
        done("rises and asks, 47", second(5, "ww", 47, 0, BY_TRUE), Story::new,
                due -> due.global(47, 1).place += BRANCHED);
        done("becomes, 47", second(13, "ww", 47, 7), Story::new, due -> due.global(47, 7));
        done("rises, 47", first(5, 47), Story::new, due -> due.global(47, 1));
        done("falls, 47", first(6, 47), Story::new, due -> due.global(47, 65535));
        done("its value, 47", first(14, 47, TOP), () -> new Story().word(GLOBALS + 62, 9), due -> due.push(9));
        done("pulls, 47", 4, () -> withWords(new Story(), 1, many(PULL, "w", 47)), due -> due.pop().global(47, 1));
    }

    private static Story globalsAt(int place) {
        return new Story().word(10, place);
    }

    /** "To read a byte or word that is not all there .. is BAD": a global's */
    private static void wordsOfTheGlobalsThatAreNotAllThere() {
        int[] first = {20 + 64, 16, 1, TOP};
        int[] second = {20 + 64, 17, 1, TOP};
        int[] last = {20 + 64, 47, 1, TOP};
        done("the first one at 510", first, () -> globalsAt(510).word(510, 8), due -> due.push(9));
        bad("the first one at 511", first, () -> globalsAt(511));
        bad("the first one at 512", first, () -> globalsAt(512));
        bad("the first one at 65535", first, () -> globalsAt(65535));
        bad("the second one at 512", second, () -> globalsAt(510));
        done("the last one at 510", last, () -> globalsAt(448).word(510, 8), due -> due.push(9));
        bad("the last one at 511", last, () -> globalsAt(449));
        done("the first one at 0", first, () -> globalsAt(0).word(0, 8), due -> due.push(9));
        bad("not taken modulo 65536", last, () -> globalsAt(65536 - 62));
    }

    /** "bytes from there on, and those below 16, cannot be written by the story": a global's */
    private static void wordsOfTheGlobalsThatCannotBeWritten() {
        int[] first = {20, 4, 5, 16};
        int[] second = {20, 4, 5, 17};
        bad("at 14", first, () -> globalsAt(14));
        bad("at 15", first, () -> globalsAt(15));
        done("at 16", first, () -> globalsAt(16), due -> due.word(16, 9));
        done("the second one at 16", second, () -> globalsAt(14), due -> due.word(16, 9));
        done("below the base", first, () -> globalsAt(398).word(12, 400), due -> due.word(398, 9));
        bad("over the base", first, () -> globalsAt(399).word(12, 400));
        bad("at the base", first, () -> globalsAt(400).word(12, 400));
        done("at 510", first, () -> globalsAt(510), due -> due.word(510, 9));
        bad("at 511", first, () -> globalsAt(511).word(12, 65535));
        bad("at 512", second, () -> globalsAt(510).word(12, 65535));
        trouble("what was read from the stack went", BAD,
                () -> withWords(new Story(), 1, 20 + 64, TOP, 5, 16).word(10, 14), due -> due.pop());
    }

    /** "reading one more is an EMPTY stack" */
    private static void readingOneMoreIsAnEmptyStack() {
        done("the last word", 4, () -> withWords(new Story(), 1, 20 + 64, TOP, 5, G0), due -> due.pop().global(G0, 6));
        trouble("one more", STACK, () -> withWords(new Story(), 0, 20 + 64, TOP, 5, G0), NOTHING);
        trouble("one more, when one was read", STACK, () -> withWords(new Story(), 1, 20 + 96, TOP, TOP, G0),
                due -> due.pop());
        done("the last word goes", 1, () -> withWords(new Story(), 1, Story.TOP_GOES), due -> due.pop());
        trouble("no word goes", STACK, () -> withWords(new Story(), 0, Story.TOP_GOES), NOTHING);
        done("the last word is pulled", 3, () -> withWords(new Story(), 1, many(PULL, "b", G0)),
                due -> due.pop().global(G0, 1));
        trouble("no word is pulled", STACK, () -> withWords(new Story(), 0, many(PULL, "b", G0)), NOTHING);
    }

    /** "A routine has the words of the stack that came since it was called" */
    private static void aRoutineHasNoWordsOfItsCaller() {
        done("its own word", 4, () -> routineAbove(2, 1, 20 + 64, TOP, 5, G0), due -> due.pop().global(G0, 14));
        trouble("its caller's word", STACK, () -> routineAbove(2, 0, 20 + 64, TOP, 5, G0), NOTHING);
        trouble("its own word, then its caller's", STACK, () -> routineAbove(2, 1, 20 + 96, TOP, TOP, G0),
                due -> due.pop());
        done("its own word goes", 1, () -> routineAbove(2, 1, Story.TOP_GOES), due -> due.pop());
        trouble("its caller's word does not go", STACK, () -> routineAbove(2, 0, Story.TOP_GOES), NOTHING);
        trouble("its caller's word is not pulled", STACK, () -> routineAbove(2, 0, many(PULL, "b", G0)), NOTHING);
        trouble("its caller's word is not returned", STACK, () -> routineAbove(2, 0, Story.RETURN_TOP), NOTHING);
        done("its own word is returned", 0, () -> routineAbove(2, 1, Story.RETURN_TOP), due -> {
            due.pop().global(G0, 9).routines = 0;
            due.place = CODE + 4;
        });
    }

    /** "0 is the top of the stack, but there it does not go when it is read, and is replaced when it is written" */
    private static void namedByANumberTheTopStays() {
        done("4", 4, () -> withWords(new Story(), 2, 4, TOP, 2, 64 + 2), due -> due.pop().push(1));
        done("5", 4, () -> withWords(new Story(), 2, 5, TOP, 3, 64 + 2), due -> due.pop().push(3));
        done("13", 3, () -> withWords(new Story(), 2, 13, TOP, 9), due -> due.pop().push(9));
        done("rises", 2, () -> withWords(new Story(), 2, 149, TOP), due -> due.pop().push(3));
        done("falls", 2, () -> withWords(new Story(), 2, 150, TOP), due -> due.pop().push(1));
        done("its value", 3, () -> withWords(new Story(), 2, 158, TOP, G0), due -> due.global(G0, 2));
        done("its value to the stack", 3, () -> withWords(new Story(), 2, 158, TOP, TOP), due -> due.push(2));
        done("named by a variable", 3, () -> withWords(new Story(), 2, 13 + 64, G0, 9), due -> due.pop().push(9));
        done("it becomes the top, which goes", 3, () -> withWords(new Story(), 2, 13 + 96, G0, TOP),
                due -> due.pop().pop().push(2));
    }

    /** "(.. an EMPTY stack ..)": of the routine, named by a number */
    private static void namedByANumberAnEmptyStackIsEmpty() {
        int[][] codes = {{4, TOP, 2, BY_TRUE}, {5, TOP, 3, BY_TRUE}, {13, TOP, 9}, {149, TOP}, {150, TOP},
            {158, TOP, G0}, many(PULL, "b", TOP)};
        for (int[] code : codes) {
            String what = "operation byte " + code[0];
            trouble(what + ", empty", STACK, code, Story::new, NOTHING);
            trouble(what + ", the caller's word", STACK, () -> routineAbove(1, 0, code), NOTHING);
        }
    }

    private static void namedByANumberAFullStackIsNoMatter() {
        done("13", 3, () -> withWords(new Story(), 48, 13, TOP, 9), due -> due.pop().push(9));
        done("rises", 2, () -> withWords(new Story(), 48, 149, TOP), due -> due.pop().push(49));
        done("falls", 2, () -> withWords(new Story(), 48, 150, TOP), due -> due.pop().push(47));
        done("its value", 3, () -> withWords(new Story(), 48, 158, TOP, G0), due -> due.global(G0, 48));
        trouble("its value to the stack", STACK, () -> withWords(new Story(), 48, 158, TOP, TOP), NOTHING);
    }

    /** "variable x becomes the top of the stack, which goes": variable 0 is what is then the top */
    private static void pullingIntoTheTop() {
        int[] pull = many(PULL, "b", TOP);
        done("two words", 3, () -> withWords(new Story(), 2, pull), due -> due.pop().pop().push(2));
        trouble("one word", STACK, () -> withWords(new Story(), 1, pull), due -> due.pop());
        trouble("one word of the routine", STACK, () -> routineAbove(1, 1, pull), due -> due.pop());
        trouble("into a local that it does not have", BAD, () -> withWords(new Story(), 1, many(PULL, "b", 1)),
                due -> due.pop());
    }
}
