/** Terms: save and restore. */
public final class SaveTest {
    private static final int CALL = 224;
    private static final int AT = Story.ROUTINE / 2;

    public static void main(String[] args) {
        nothingPutAside();
        bringsBackMemoryAndStack();
        goesOnBehindTheSave();
        bringsBackRoutines();
        bringsBackWhatWasCalledOver();
        aSaveThatReturns();
        theLastOneCounts();
        whatStays();
        Check.end();
    }

    private static void nothingPutAside() {
        StoryMachine x = Story.of(Story.RESTORE, 192 + 20).machine;
        Check.same("run", x.run(1), 0);
        Check.same("false", x.place(), Story.CODE + 2);
        StoryMachine y = Story.of(Story.RESTORE, 64 + 20).machine;
        Check.same("run", y.run(1), 0);
        Check.same("branches by false", y.place(), Story.CODE + 2 + 18);
        Check.same("returns from the story", Story.of(Story.RESTORE, 64).machine.run(1), 1);
    }

    private static void bringsBackMemoryAndStack() {
        // Pushes 1, saves, pushes 2, changes a global, restores.
        Story story = Story.of(232, 127, 1, Story.SAVE, 64, 232, 127, 2, 13, Story.G0, 9, Story.RESTORE, 192);
        story.bytes(400, 5);
        Check.same("run", story.machine.run(4), 0);
        Check.same("changed", story.global(Story.G0), 9);
        Check.same("two words", story.machine.stack(-1), 2);
        story.bytes(400, 6);
        Check.same("restore", story.machine.run(1), 0);
        Check.same("as it was", story.global(Story.G0), 0);
        Check.same("what the host wrote goes too", story.machine.peek(400), 5);
        Check.same("one word", story.machine.stack(-1), 1);
        Check.same("it", story.machine.stack(0), 1);
        Check.same("behind the save", story.machine.place(), Story.CODE + 5);
        Check.same("again and again", story.machine.run(299), 0);
        Check.same("it is still put aside", story.machine.place(), Story.CODE + 11);
    }

    private static void goesOnBehindTheSave() {
        StoryMachine branches = Story.of(Story.SAVE, 192 + 5, 0, 0, 0, Story.NOTHING, Story.RESTORE, 192).machine;
        Check.same("save", branches.run(1), 0);
        Check.same("true branches", branches.place(), Story.CODE + 5);
        Check.same("restore", branches.run(2), 0);
        Check.same("as if it had branched", branches.place(), Story.CODE + 5);
        StoryMachine not = Story.of(Story.SAVE, 64 + 5, Story.NOTHING, Story.RESTORE, 192).machine;
        Check.same("save", not.run(1), 0);
        Check.same("true does not branch by false", not.place(), Story.CODE + 2);
        Check.same("restore", not.run(2), 0);
        Check.same("behind it", not.place(), Story.CODE + 2);
    }

    private static void bringsBackRoutines() {
        // Saves in a routine with locals, changes one, returns; the story restores.
        Story story = new Story().bytes(Story.ROUTINE, 2, 0, 3, 0, 4, 232, 127, 8, Story.SAVE, 192 + 2,
                13, 1, 9, Story.RETURN_1);
        story.begin(232, 127, 7, CALL, 127, AT, Story.G0, Story.RESTORE, 192);
        Check.same("run", story.machine.run(6), 0);
        Check.same("returned", story.machine.routines(), 0);
        Check.same("given", story.global(Story.G0), 1);
        Check.same("restore", story.machine.run(1), 0);
        Check.same("in the routine", story.machine.routines(), 1);
        Check.same("two locals", story.machine.local(0), 2);
        Check.same("first", story.machine.local(1), 3);
        Check.same("second", story.machine.local(2), 4);
        Check.same("two words", story.machine.stack(-1), 2);
        Check.same("its word", story.machine.stack(0), 8);
        Check.same("the story's", story.machine.stack(1), 7);
        Check.same("what was given went", story.global(Story.G0), 0);
        Check.same("place", story.machine.place(), Story.ROUTINE + 10);
        Check.same("goes on", story.machine.run(2), 0);
        Check.same("returns where it was called", story.machine.place(), Story.CODE + 7);
        Check.same("given again", story.global(Story.G0), 1);
        Check.same("the story's word is left", story.machine.stack(-1), 1);
    }

    private static void bringsBackWhatWasCalledOver() {
        // Saves in a routine with a word of its own, returns; then the story calls another in its place.
        Story story = new Story().bytes(Story.ROUTINE, 1, 0, 3, 232, 127, 8, Story.SAVE, 192 + 2, Story.RETURN_TOP);
        story.bytes(Story.FREE, 0, 232, 127, 9, 232, 127, 9, Story.RESTORE, 192);
        story.begin(232, 127, 6, 232, 127, 7, CALL, 127, AT, Story.G0, Story.TOP_GOES, 232, 127, 5, 232, 127, 4,
                232, 127, 3, CALL, 127, Story.FREE / 2, Story.G1, Story.END);
        Check.same("save, return, and call the other", story.machine.run(13), 0);
        Check.same("its locals", story.machine.local(0), 0);
        Check.same("six words", story.machine.stack(-1), 6);
        Check.same("restore", story.machine.run(1), 0);
        Check.same("a local", story.machine.local(0), 1);
        Check.same("its value", story.machine.local(1), 3);
        int[] due = {8, 7, 6};
        Check.same("three words", story.machine.stack(-1), due.length);
        for (int k = 0; k < due.length; k++) {
            Check.same("word " + k, story.machine.stack(k), due[k]);
        }
        Check.same("returns", story.machine.run(1), 0);
        Check.same("behind its call", story.machine.place(), Story.CODE + 10);
        Check.same("to its global", story.global(Story.G0), 8);
        Check.same("not to the other's", story.global(Story.G1), 0);
        Check.same("two words", story.machine.stack(-1), 2);
    }

    private static void aSaveThatReturns() {
        Story story = new Story().bytes(Story.ROUTINE, 0, Story.SAVE, 192 + 1);
        story.begin(CALL, 127, AT, Story.G0, 13, Story.G0, 5, 13, Story.G1, 6, Story.RESTORE, 192);
        Check.same("save", story.machine.run(2), 0);
        Check.same("it returned", story.machine.routines(), 0);
        Check.same("1", story.global(Story.G0), 1);
        Check.same("change and restore", story.machine.run(3), 0);
        Check.same("as if it had returned", story.machine.routines(), 0);
        Check.same("place", story.machine.place(), Story.CODE + 4);
        Check.same("what it gave", story.global(Story.G0), 1);
        Check.same("what came later went", story.global(Story.G1), 0);
        Check.same("the story itself cannot", Story.of(Story.SAVE, 192).machine.run(1), 1);
    }

    private static void theLastOneCounts() {
        Story story = Story.of(Story.SAVE, 64, 13, Story.G0, 5, Story.SAVE, 64, 13, Story.G0, 6, Story.RESTORE, 192);
        Check.same("run", story.machine.run(5), 0);
        Check.same("the second one", story.global(Story.G0), 5);
        Check.same("place", story.machine.place(), Story.CODE + 7);
    }

    private static void whatStays() {
        // Draws, saves, draws, puts out, restores, draws, reads.
        Story story = Story.of(231, 63, 3, 232, Story.G0, Story.SAVE, 192 + 2, 231, 63, 3, 232, 0,
                Story.NEW_LINE, Story.RESTORE, 192);
        Check.same("run", story.machine.run(4), 0);
        story.line("abc");
        Check.same("run", story.machine.run(1), 0);
        Check.same("first", story.global(Story.G0), 8);
        Check.same("place", story.machine.place(), Story.CODE + 7);
        Check.same("what was put out stays", story.machine.output(-1), 1);
        Check.same("draws again", story.machine.run(1), 0);
        Check.same("the random number stays: 276", story.machine.stack(0), 258);
        Check.same("steps stay", story.machine.steps(), 6);
        story.bytes(Story.CODE + 12, 228, 95, 200, 240).bytes(200, 9).bytes(240, 0);
        Check.same("the line stays", story.machine.run(1), 0);
        Check.same("read", story.machine.peek(201), 'a');
    }
}
