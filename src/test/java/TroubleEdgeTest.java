/** Terms, TROUBLES: what a step has done before there is trouble stays so; the place is that of the instruction. */
public final class TroubleEdgeTest extends Edge {
    public static void main(String[] args) {
        writtenBefore();
        takenFromTheStackBefore();
        leftARoutineBefore();
        putOutBefore();
        trouble1();
        trouble2();
        trouble3();
        trouble4();
        thePlaceIsThatOfTheInstruction();
        aStoryIsBegunAnewAfterTrouble();
        Check.end();
    }

    /** "What a step has done before there is trouble stays so (written ..)" */
    private static void writtenBefore() {
        trouble("a variable fell before it returns", BAD, new int[] {4, G0, 5, 192}, () -> new Story().word(GLOBALS, 3),
                due -> due.global(G0, 2));
        trouble("a variable rose before it returns", BAD, new int[] {5, G0, 3, 193}, () -> new Story().word(GLOBALS, 3),
                due -> due.global(G0, 4));
        trouble("a local fell before what it returns cannot be written", BAD, () -> {
            Story story = new Story().bytes(ROUTINE, 1, 0, 9, 4, 1, 20, 192).begin(224, 127, ROUTINE / 2, 48);
            Check.same("calls", story.machine.run(1), 0);
            return story;
        }, due -> {
            due.locals = new int[0];
            due.routines = 0;
        });
        trouble("a child was given before it returns", BAD, first(2, 1, G0, 192),
                () -> new Story().bytes(Story.OBJECTS + 20, 5), due -> due.global(G0, 5));
        trouble("characters of a line", BAD,
                () -> new Story().bytes(400, 9).word(12, 403).begin(many(4, "ww", 400, 440)).line("abc"),
                due -> due.bytes(401, 'a', 'b'));
        trouble("the sibling came in its place", BAD, first(9, 2), () -> new Story().bytes(Story.OBJECTS + 20, 2)
                .bytes(Story.OBJECTS + 27, 1, 3).word(12, Story.OBJECTS + 27), due -> due.bytes(Story.OBJECTS + 20, 3));
        trouble("a global below the base, then none", BAD, () -> {
            Story story = Story.of(13, G0, 5, 13, G1, 6).word(12, GLOBALS + 2);
            Check.same("the first one", story.machine.run(1), 0);
            return story;
        }, NOTHING);
    }

    /** "(.. taken from the stack ..)" */
    private static void takenFromTheStackBefore() {
        trouble("then the stack is empty", STACK, () -> withWords(new Story(), 1, 116, TOP, TOP, G0), due -> due.pop());
        trouble("then a variable is bad", BAD, () -> withWords(new Story(), 2, 116, TOP, 48, G0), due -> due.pop());
        trouble("then it is divided by 0", DIVISION, () -> withWords(new Story(), 2, 23 + 64, TOP, 0, G0),
                due -> due.pop());
        trouble("then what it gives cannot be written", BAD, () -> withWords(new Story(), 2, 20 + 64, TOP, 1, 48),
                due -> due.pop());
        trouble("then an object is bad", BAD, () -> withWords(new Story(), 21, 170, TOP), due -> due.pop());
        trouble("then a byte is not there", BAD, () -> withWords(new Story(), 2, second(16, "wv", 511, TOP, G0)),
                due -> due.pop());
        trouble("then the operation is not there", BAD, () -> withWords(new Story(), 2, 168, TOP), due -> due.pop());
        trouble("then there are too few numbers", BAD, () -> withWords(new Story(), 2, second(20, "v", TOP, G0)),
                due -> due.pop());
        trouble("then the first routine returns", BAD, () -> withWords(new Story(), 2, 171, TOP), due -> due.pop());
        trouble("then the variable is bad", BAD, () -> withWords(new Story(), 2, many(9, "b", 48)), due -> due.pop());
    }

    /** "(.. left a routine ..)" */
    private static void leftARoutineBefore() {
        for (int result : new int[] {1, 48}) {
            trouble("returns 1 to " + result, BAD, () -> called(result, none(0)), TroubleEdgeTest::left);
            trouble("returns 0 to " + result, BAD, () -> called(result, none(1)), TroubleEdgeTest::left);
            trouble("returns x to " + result, BAD, () -> called(result, first(11, 5)), TroubleEdgeTest::left);
            trouble("returns the top to " + result, BAD, () -> called(result, none(8)), TroubleEdgeTest::left);
            trouble("branches to " + result, BAD, () -> called(result, 144, 0, 192), TroubleEdgeTest::left);
        }
        trouble("not when the top is not there", STACK, () -> {
            Story story = new Story().bytes(ROUTINE, 0, Story.RETURN_TOP).begin(224, 127, ROUTINE / 2, G0);
            Check.same("calls", story.machine.run(1), 0);
            return story;
        }, NOTHING);
    }

    /** A routine with two locals and a word of its own. */
    private static Story called(int result, int... code) {
        Story story = new Story().bytes(ROUTINE, 2, 0, 1, 0, 2, 232, 127, 7).bytes(ROUTINE + 8, code);
        story.begin(232, 127, 3, 224, 127, ROUTINE / 2, result);
        Check.same("calls", story.machine.run(3), 0);
        return story;
    }

    private static void left(Answers due) {
        due.pop().routines = 0;
        due.locals = new int[0];
    }

    /** "(.. put out)" */
    private static void putOutBefore() {
        int abc = 6 << 10 | 7 << 5 | 8;
        trouble("text without an end", BAD, first(7, 508), () -> new Story().word(508, abc).word(510, abc),
                due -> due.puts("abcabc"));
        trouble("text, then the first routine returns", BAD, none(3, Story.text(6, 7)), Story::new,
                due -> due.puts("ab\r"));
        trouble("a name without an end", BAD, first(10, 1), () -> new Story().word(Story.OBJECTS + 21, 509).bytes(509, 1)
                .word(510, abc), due -> due.puts("abc"));
    }

    /** "1 bad (also an operation that is not in its list)" */
    private static void trouble1() {
        bad("a byte that is not there", second(16, "ww", 512, 0, G0));
        bad("a byte that cannot be written", many(2, "www", 15, 0, 7));
        bad("a variable", new int[] {149, 48});
        bad("a local", new int[] {149, 1});
        bad("an object", first(3, 21, G0));
        bad("an attribute", second(10, "ww", 1, 32, BY_TRUE));
        bad("the first routine returns", none(0));
        bad("no operation of the second list", new int[] {25, 1, 1, G0});
        bad("no operation of the first list", first(8, 1, G0));
        bad("no operation of list none", none(7));
        bad("no operation of the many list", many(10, "b", 1, G0));
    }

    /** "2 an empty or full stack, or too many routines" */
    private static void trouble2() {
        trouble("an empty stack", STACK, none(9), Story::new, NOTHING);
        trouble("a full stack", STACK, () -> withWords(new Story(), 48, many(8, "b", 1)), NOTHING);
        trouble("too many routines", STACK, () -> withRoutines(new Story(), 10, 224, 127, ROUTINE / 2, G1), NOTHING);
    }

    /** "3 DIVISION" */
    private static void trouble3() {
        trouble("x / 0", DIVISION, second(23, "ww", 7, 0, G0), Story::new, NOTHING);
        trouble("x modulo 0", DIVISION, second(24, "ww", 7, 0, G0), Story::new, NOTHING);
    }

    /** "4 WAITING (nothing has changed; the step is tried anew in the next run)" */
    private static void trouble4() {
        trouble("no line", WAITING, () -> withWords(new Story(), 3, many(4, "vv", TOP, TOP)), NOTHING);
        trouble("no line in a routine", WAITING, () -> withLocals(new Story(), 3, many(4, "bb", 200, 220)), NOTHING);
        done("the step is read anew", 3, () -> {
            Story story = withWords(new Story(), 3, many(4, "vv", TOP, TOP));
            Check.same("waits", story.machine.run(1), 4);
            return story.bytes(CODE, many(5, "v", TOP));
        }, due -> due.pop().puts("\u0003"));
        done("a line is there at last", 4, () -> {
            Story story = new Story().bytes(200, 3).bytes(220, 0).begin(many(4, "bb", 200, 220));
            Check.same("waits", story.machine.run(300), 4);
            Check.same("waits", story.machine.run(300), 4);
            return story.line("abcd");
        }, due -> due.bytes(201, 'a', 'b', 'c', 0));
    }

    /** "the place is that of the instruction" */
    private static void thePlaceIsThatOfTheInstruction() {
        int[][] codes = {{0, 1, 1}, {Story.TOP_GOES}, {23, 1, 0, G0}, many(4, "bb", 200, 220), second(20, "wv", 1, 48, G0),
            many(0, "ww", 256, 7, G0), none(3, Story.text(6))};
        int[] answers = {BAD, STACK, DIVISION, WAITING, BAD, BAD, BAD};
        for (int i = 0; i < codes.length; i++) {
            StoryMachine x = Story.of(join(none(4), new int[] {140, 0, 4}, new int[] {0, 0}, codes[i])).machine;
            Check.same("run", x.run(300), answers[i]);
            Check.same("place of trouble in byte " + codes[i][0], x.place(), CODE + 6);
            Check.same("steps before it", x.steps(), 2);
        }
    }

    private static void aStoryIsBegunAnewAfterTrouble() {
        int[][] codes = {{0, 1, 1}, {Story.TOP_GOES}, {23, 1, 0, G0}, many(4, "bb", 200, 220)};
        for (int i = 0; i < codes.length; i++) {
            int[] code = codes[i];
            int answer = 1 + i;
            ends("after trouble " + answer, 1, () -> {
                Story story = Story.of(code);
                Check.same("run", story.machine.run(1), answer);
                return story.begin(Story.END);
            });
        }
    }
}
