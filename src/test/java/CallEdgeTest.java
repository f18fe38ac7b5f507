/** Terms, ROUTINES, a CALL and its return: both sides of each edge, and what has changed. */
public final class CallEdgeTest extends Edge {
    private static final int AT = ROUTINE / 2;

    public static void main(String[] args) {
        atMost10Routines();
        tooManyRoutinesAreLookedAtFirst();
        numbersAreReadBeforeTooManyRoutines();
        noRoutineIsNoCall();
        atMost15Locals();
        theRoutineMustBeThere();
        localsThatAreNotAllThere();
        theFirstLocalsBecomeTheNumbers();
        tenRoutinesWithFifteenLocals();
        wordsOfTheRoutineGoThenTheValueIsWritten();
        aFullStackWhenItReturns();
        aValueThatCannotBeWritten();
        theFirstRoutineReturns();
        Check.end();
    }

    private static int[] call(int x, int result) {
        return many(0, "w", x, result);
    }

    /** "ROUTINES at most 10 called one from the other." */
    private static void atMost10Routines() {
        done("the first", 0, () -> withRoutines(new Story(), 0, call(AT, G0)), due -> {
            due.routines = 1;
            due.place = ROUTINE + 1;
        });
        done("the tenth", 0, () -> withRoutines(new Story(), 9, call(AT, G0)), due -> due.routines = 10);
        trouble("the eleventh", STACK, () -> withRoutines(new Story(), 10, call(AT, G0)), NOTHING);
        done("when one has returned", 0, () -> {
            Story story = withRoutines(new Story(), 10, Story.RETURN_1);
            story.bytes(ROUTINE + 5, call(AT, G0));
            Check.same("it returns", story.machine.run(1), 0);
            return story;
        }, due -> {
            due.routines = 10;
            due.place = ROUTINE + 1;
        });
    }

    /** "A CALL (too many routines: looked at first)" */
    private static void tooManyRoutinesAreLookedAtFirst() {
        trouble("outside of the memory", STACK, () -> withRoutines(new Story(), 10, call(256, G0)), NOTHING);
        trouble("sixteen locals", STACK, () -> withRoutines(new Story(), 10, call(FREE / 2, G0)).bytes(FREE, 16), NOTHING);
        trouble("locals that are not there", STACK, () -> withRoutines(new Story(), 10, call(255, G0)).bytes(510, 1),
                NOTHING);
        trouble("outside of the memory, nine", BAD, () -> withRoutines(new Story(), 9, call(256, G0)), NOTHING);
        trouble("sixteen locals, nine", BAD, () -> withRoutines(new Story(), 9, call(FREE / 2, G0)).bytes(FREE, 16),
                NOTHING);
    }

    /** "Numbers are read in order ..; then the other bytes are read, then it is done." */
    private static void numbersAreReadBeforeTooManyRoutines() {
        int[] calls = join(many(8, "b", 77), many(0, "wv", AT, TOP, G0));
        trouble("a word of the stack", STACK, () -> {
            Story story = withRoutines(new Story(), 10, calls);
            story.machine.run(1);
            return story;
        }, due -> due.pop());
        trouble("a variable that is bad", BAD, () -> withRoutines(new Story(), 10, many(0, "wv", AT, 48, G0)), NOTHING);
        trouble("no number", BAD, () -> withRoutines(new Story(), 10, many(0, "", G0)), NOTHING);
        trouble("no byte for what it gives", BAD, () -> {
            Story story = withRoutines(new Story(), 10, first(12, 508 - (ROUTINE + 4) + 2));
            story.bytes(508, call(AT, G0)[0], call(AT, G0)[1], 0, AT);
            Check.same("it jumps", story.machine.run(1), 0);
            return story;
        }, NOTHING);
    }

    /** "(x 0: gives 0)" */
    private static void noRoutineIsNoCall() {
        done("to a global", call(0, G0), () -> new Story().word(GLOBALS, 9), due -> due.global(G0, 0));
        done("with numbers", many(0, "bbbb", 0, 1, 2, 3, TOP), Story::new, due -> due.push(0));
        done("with ten routines", 5, () -> withRoutines(new Story(), 10, call(0, TOP)), due -> due.push(0));
        bad("to a bad variable", call(0, 48));
        done("1 is a routine at 2", many(0, "b", 1, G0), () -> new Story().bytes(2, 0), due -> {
            due.routines = 1;
            due.place = 3;
        });
    }

    /** "the byte at the place says how many locals there are (above 15: bad)" */
    private static void atMost15Locals() {
        for (int locals : new int[] {0, 1, 14, 15}) {
            done(locals + " locals", 0, () -> new Story().bytes(ROUTINE, locals).begin(call(AT, G0)), due -> {
                due.locals = new int[locals];
                due.routines = 1;
                due.place = ROUTINE + 1 + 2 * locals;
            });
        }
        for (int locals : new int[] {16, 17, 32, 128, 255}) {
            bad(locals + " locals", call(AT, G0), () -> new Story().bytes(ROUTINE, locals));
            bad(locals + " locals, numbers for some", many(0, "wbbb", AT, 1, 2, 3, G0),
                    () -> new Story().bytes(ROUTINE, locals));
        }
    }

    /** "To read a byte .. that is not all there .. is BAD": the routine's byte */
    private static void theRoutineMustBeThere() {
        done("at 510", call(255, G0), Story::new, due -> {
            due.routines = 1;
            due.place = 511;
        });
        bad("at 512", call(256, G0));
        bad("at 65536", call(32768, G0));
        bad("at 131070", call(65535, G0));
        trouble("what was read from the stack went", BAD,
                () -> withWords(new Story(), 1, many(0, "wv", 256, TOP, G0)), due -> due.pop());
    }

    /** "then come their words": "to read a .. word that is not all there .. is BAD" */
    private static void localsThatAreNotAllThere() {
        done("one, up to 510", call(254, G0), () -> new Story().bytes(508, 1, 5, 6), due -> {
            due.locals = new int[] {0x0506};
            due.routines = 1;
            due.place = 511;
        });
        bad("one, its second byte is not there", call(255, G0), () -> new Story().bytes(510, 1, 5));
        bad("two, the second one is not there", call(254, G0), () -> new Story().bytes(508, 2, 5, 6, 7));
        done("fifteen, up to 510", call(240, G0), () -> new Story().bytes(480, 15), due -> {
            due.locals = new int[15];
            due.routines = 1;
            due.place = 511;
        });
        bad("fifteen, the last one is not all there", call(241, G0), () -> new Story().bytes(482, 15));
        bad("a number is there instead", many(0, "wb", 255, 7, G0), () -> new Story().bytes(510, 1, 5));
    }

    private static void locals(String what, int locals, int[] code, int... due) {
        done(what, 0, () -> {
            Story story = new Story().bytes(ROUTINE, locals);
            for (int i = 0; i < locals; i++) {
                story.word(ROUTINE + 1 + 2 * i, 500 + i);
            }
            return story.begin(code);
        }, answers -> {
            answers.locals = due;
            answers.routines = 1;
            answers.place = ROUTINE + 1 + 2 * locals;
        });
    }

    /** "the first ones become the numbers instead" */
    private static void theFirstLocalsBecomeTheNumbers() {
        int[][] calls = {
            many(0, "w", AT, G0), many(0, "ww", AT, 65535, G0), many(0, "www", AT, 65535, 8, G0),
            many(0, "wwww", AT, 65535, 8, 9, G0)};
        locals("none of two", 2, calls[0], 500, 501);
        locals("one of two", 2, calls[1], 65535, 501);
        locals("two of two", 2, calls[2], 65535, 8);
        locals("three for two", 2, calls[3], 65535, 8);
        locals("three of four", 4, calls[3], 65535, 8, 9, 503);
        locals("three for one", 1, calls[3], 65535);
        locals("three for none", 0, calls[3]);
        locals("one for none", 0, calls[1]);
    }

    /** Each of them counts its first local up, calls itself with it, and gives what comes back to its last one. */
    private static Story fifteenEach(int routines) {
        Story story = new Story().bytes(ROUTINE, 15).word(ROUTINE + 1 + 2 * 13, 514);
        story.bytes(ROUTINE + 31, join(new int[] {149, 1}, many(0, "wv", AT, 1, 15), first(11, 77)));
        story.begin(many(0, "wb", AT, 0, G0));
        Check.same(routines + " are called", story.machine.run(2 * routines - 1), 0);
        return story;
    }

    private static void tenRoutinesWithFifteenLocals() {
        done("the tenth rises", 2, () -> fifteenEach(10), due -> due.locals[0] = 10);
        done("the ninth calls the tenth", 0, () -> {
            Story story = fifteenEach(9);
            Check.same("it rises", story.machine.run(1), 0);
            return story;
        }, due -> {
            due.routines = 10;
            due.place = ROUTINE + 31;
        });
        Story story = fifteenEach(10).bytes(ROUTINE + 31, first(11, 77));
        for (int left = 9; left >= 1; left--) {
            Check.same("returns", story.machine.run(1), 0);
            Check.same("routines", story.machine.routines(), left);
            Check.same("how many locals", story.machine.local(0), 15);
            Check.same("its first one", story.machine.local(1), left);
            Check.same("its last but one", story.machine.local(14), 514);
            Check.same("its last one", story.machine.local(15), 77);
            story.bytes(story.machine.place(), first(11, 77));
        }
    }

    /** The story has some words, called a routine, and that has pushed some. */
    private static Story called(int storyWords, int routineWords, int result, int... code) {
        Story story = withWords(new Story(), storyWords, call(AT, result)).bytes(ROUTINE, 1, 1, 1);
        for (int i = 0; i < routineWords; i++) {
            story.bytes(ROUTINE + 3 + 3 * i, many(8, "b", 60 + i));
        }
        story.bytes(ROUTINE + 3 + 3 * routineWords, code);
        Check.same("called", story.machine.run(1 + routineWords), 0);
        return story;
    }

    private static void returned(Answers due, int words) {
        due.routines = 0;
        due.locals = new int[0];
        for (int i = 0; i < words; i++) {
            due.pop();
        }
    }

    /** "It returns to behind the instruction: the words that the routine has go from the stack, then the value is written." */
    private static void wordsOfTheRoutineGoThenTheValueIsWritten() {
        for (int words : new int[] {0, 1, 3}) {
            done("to a global, " + words, 0, () -> called(2, words, G0, Story.RETURN_1), due -> {
                returned(due, words);
                due.global(G0, 1).place = CODE + 5;
            });
            done("0 to a global, " + words, 0, () -> called(2, words, G0, Story.RETURN_0).word(GLOBALS, 9), due -> {
                returned(due, words);
                due.global(G0, 0).place = CODE + 5;
            });
            done("to the stack, " + words, 0, () -> called(2, words, TOP, first(11, 65535)), due -> {
                returned(due, words);
                due.push(65535).place = CODE + 5;
            });
        }
        done("the top of its stack", 0, () -> called(2, 3, TOP, Story.RETURN_TOP), due -> {
            returned(due, 3);
            due.push(62).place = CODE + 5;
        });
        done("by a branch with 0", 0, () -> called(2, 3, TOP, 144, 0, 128 + 64), due -> {
            returned(due, 3);
            due.push(0).place = CODE + 5;
        });
    }

    /** "one too many a FULL one": and the routine is left */
    private static void aFullStackWhenItReturns() {
        done("47 words of the story", 0, () -> called(47, 0, TOP, Story.RETURN_1), due -> {
            returned(due, 0);
            due.push(1).place = CODE + 5;
        });
        trouble("48 words of the story", STACK, () -> called(48, 0, TOP, Story.RETURN_1), due -> returned(due, 0));
        done("47 words of the story and one of the routine", 0, () -> called(47, 1, TOP, Story.RETURN_1), due -> {
            returned(due, 1);
            due.push(1).place = CODE + 5;
        });
        done("48 words of the story, to a global", 0, () -> called(48, 0, G0, Story.RETURN_1), due -> {
            returned(due, 0);
            due.global(G0, 1).place = CODE + 5;
        });
    }

    /** "What a step has done before there is trouble stays so (.. left a routine ..); the place is that of the instruction." */
    private static void aValueThatCannotBeWritten() {
        for (int result : new int[] {1, 15, 48, 255}) {
            trouble("to " + result, BAD, () -> called(2, 3, result, Story.RETURN_1), due -> returned(due, 3));
        }
        trouble("to a global below 16", BAD, () -> called(2, 1, G0, Story.RETURN_TOP).word(10, 14),
                due -> returned(due, 1));
        trouble("text was put out", BAD, () -> called(2, 1, 48, none(3, Story.text(6))), due -> {
            returned(due, 1);
            due.puts("a\r");
        });
    }

    /** "When the first routine (the story itself) returns: bad." */
    private static void theFirstRoutineReturns() {
        trouble("1", BAD, () -> withWords(new Story(), 2, Story.RETURN_1), NOTHING);
        trouble("0", BAD, () -> withWords(new Story(), 2, Story.RETURN_0), NOTHING);
        trouble("x", BAD, () -> withWords(new Story(), 2, first(11, 7)), NOTHING);
        trouble("x of the stack", BAD, () -> withWords(new Story(), 2, 171, TOP), due -> due.pop());
        trouble("the top", BAD, () -> withWords(new Story(), 2, Story.RETURN_TOP), due -> due.pop());
        trouble("the top, which is not there", STACK, () -> withWords(new Story(), 0, Story.RETURN_TOP), NOTHING);
        trouble("behind a text", BAD, () -> withWords(new Story(), 2, none(3, Story.text(6))), due -> due.puts("a\r"));
        for (int offset : new int[] {0, 1}) {
            trouble("a branch with " + offset, BAD, () -> withWords(new Story(), 2, 144, 0, 192 + offset), NOTHING);
            trouble("a long branch with " + offset, BAD, () -> withWords(new Story(), 2, 144, 0, 128, offset), NOTHING);
            done("no branch with " + offset, 3, () -> withWords(new Story(), 2, 144, 1, 192 + offset), NOTHING);
        }
        done("a branch with 2", 3, () -> withWords(new Story(), 2, 144, 0, 192 + 2), NOTHING);
        trouble("when its routine has returned", BAD, () -> {
            Story story = called(2, 0, G0, Story.RETURN_1).bytes(CODE + 5, Story.RETURN_1);
            Check.same("the routine returns", story.machine.run(1), 0);
            return story;
        }, NOTHING);
    }
}
