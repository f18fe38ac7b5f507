/** Promise 4. */
public final class BeginTest {
    public static void main(String[] args) {
        beginsWhereTheHeadSays();
        refusesAPlaceOutside();
        clearsWhatWas();
        beginsAnewAfterTroubleAndEnd();
        Check.end();
    }

    private static void beginsWhereTheHeadSays() {
        StoryMachine x = new StoryMachine();
        x.begin();
        Check.same("head of zeros", x.place(), 0);
        x.poke(4, 511, 2);
        Check.allowed("the last byte", x::begin);
        Check.same("the last byte", x.place(), 511);
    }

    private static void refusesAPlaceOutside() {
        StoryMachine x = new StoryMachine();
        for (int start : new int[] {512, 32768, 65535}) {
            x.poke(4, start, 2);
            Check.refused("start " + start, IllegalStateException.class, x::begin);
            Check.same("no story was begun", x.place(), -1);
        }
        Story story = Story.of(20, 1, 2, Story.TOP, Story.NEW_LINE, Story.END);
        story.machine.run(2);
        story.word(4, 512);
        Check.refused("while a story goes on", IllegalStateException.class, story.machine::begin);
        Check.same("its place stays", story.machine.place(), Story.CODE + 5);
        Check.same("its stack stays", story.machine.stack(-1), 1);
        Check.same("its output stays", story.machine.output(-1), 1);
        Check.same("its steps stay", story.machine.steps(), 2);
        Check.same("it goes on", story.machine.run(1), 5);
    }

    private static void clearsWhatWas() {
        // Saves, calls a routine with a local, leaves a word on the stack there, then reads.
        Story story = new Story().bytes(Story.ROUTINE, 1, 0, 5, 232, 127, 9, 231, 127, 100, Story.G0,
                Story.NEW_LINE, Story.NOTHING);
        story.begin(Story.SAVE, 194, 224, Story.types("w"), 0, Story.ROUTINE / 2, Story.G1);
        story.line("abc");
        story.machine.type('d', 1);
        story.machine.run(5);
        Check.same("a routine", story.machine.routines(), 1);
        Check.same("a local", story.machine.local(0), 1);
        Check.same("a word on the stack", story.machine.stack(-1), 1);
        Check.same("a character", story.machine.output(-1), 1);
        Check.same("the first random number", story.global(Story.G0), 8);

        story.bytes(FREE_TEXT, 20).bytes(FREE_WORDS, 0);
        story.begin(231, 127, 100, Story.G0, Story.RESTORE, 64 + 3, Story.END,
                228, 95, FREE_TEXT, FREE_WORDS, Story.END);
        Check.same("no routine", story.machine.routines(), 0);
        Check.same("no local", story.machine.local(0), 0);
        Check.same("an empty stack", story.machine.stack(-1), 0);
        Check.same("no character", story.machine.output(-1), 0);
        Check.same("no steps", story.machine.steps(), 0);
        Check.same("its beginning", story.machine.place(), Story.CODE);
        Check.same("nothing put aside, and no line was typed", story.machine.run(9), 4);
        Check.same("random begins with 0 anew", story.global(Story.G0), 8);
        Check.same("it waits at READ", story.machine.place(), Story.CODE + 7);
        story.line("e");
        Check.same("it reads", story.machine.run(9), 5);
        Check.same("what was typed before begin is gone", story.machine.peek(FREE_TEXT + 1), 'e');
        Check.same("memory stays", story.machine.peek(Story.ROUTINE), 1);
    }

    private static final int FREE_TEXT = 200;
    private static final int FREE_WORDS = 230;

    private static void beginsAnewAfterTroubleAndEnd() {
        Story story = Story.of(Story.END);
        story.machine.run(1);
        story.begin(0);
        Check.same("begun after the end", story.machine.run(1), 1);
        story.begin(Story.END);
        Check.same("begun after trouble", story.machine.run(1), 5);
        Check.same("steps count anew", story.machine.steps(), 1);
    }
}
