/** The lists FIRST and NONE, where no other test has them. */
public final class FirstAndNoneTest {
    public static void main(String[] args) {
        isZero();
        jumps();
        turnsBitsOver();
        returns();
        theStory();
        nothingAndNewLines();
        Check.end();
    }

    private static void isZero() {
        int[][] rows = {{0, 0, 1}, {0, 1, 0}, {255, 255, 0}, {1, 0, 0}};
        for (int[] row : rows) {
            Story story = Story.of(128, row[0], row[1], 195, Story.END, 13, Story.G0, 1, Story.END);
            Check.same("0?", story.asked(), row[2]);
        }
    }

    private static void jumps() {
        int[][] rows = {{0, 2, 0}, {0, 3, 1}, {0, 0, -2}, {255, 255, -3}, {1, 0, 254}};
        for (int[] row : rows) {
            StoryMachine x = Story.of(140, row[0], row[1]).machine;
            Check.same("jump", x.run(1), 0);
            Check.same("to", x.place(), Story.CODE + 3 + row[2]);
        }
        StoryMachine bytes = Story.of(156, 255).machine;
        Check.same("jump by a byte", bytes.run(1), 0);
        Check.same("it has no sign", bytes.place(), Story.CODE + 2 + 253);
    }

    private static void turnsBitsOver() {
        Story story = Story.of(143, 0xF0, 0x0F, Story.G0, 159, 0, Story.G1, Story.END);
        Check.same("run", story.machine.run(3), 5);
        Check.same("turned over", story.global(Story.G0), 0x0FF0);
        Check.same("0 turned over", story.global(Story.G1), 65535);
    }

    private static void returns(String what, int due, int... code) {
        Story story = new Story().bytes(Story.ROUTINE, 0).bytes(Story.ROUTINE + 1, code);
        story.begin(232, 127, 77, 224, 63, 0, Story.ROUTINE / 2, Story.G0, Story.END);
        story.word(Story.GLOBALS, 99);
        Check.same(what + ", run", story.machine.run(9), 5);
        Check.same(what, story.global(Story.G0), due);
        Check.same(what + ", what the routine had went from the stack", story.machine.stack(-1), 1);
    }

    private static void returns() {
        returns("1", 1, Story.RETURN_1);
        returns("0", 0, Story.RETURN_0);
        returns("x", 0x1234, 139, 0x12, 0x34);
        returns("the top of the stack", 6, 232, 127, 5, 232, 127, 6, Story.RETURN_TOP);
        returns("1 with words on the stack", 1, 232, 127, 5, 232, 127, 6, Story.RETURN_1);
        int[] last = {Story.RETURN_1, Story.RETURN_0, Story.RETURN_TOP};
        for (int operation : last) {
            Story story = new Story().bytes(Story.ROUTINE, 0, 232, 127, 5, 140, 1, 88).bytes(511, operation);
            story.begin(224, 63, 0, Story.ROUTINE / 2, Story.G0, Story.END);
            int behind = Story.ROUTINE + 7;
            story.word(Story.ROUTINE + 5, 511 - behind + 2);
            Check.same("the last byte returns", story.machine.run(5), 5);
            Check.same("value", story.global(Story.G0), operation == Story.RETURN_TOP ? 5 : Story.RETURN_0 - operation);
        }
        Story empty = new Story().bytes(Story.ROUTINE, 0, Story.RETURN_TOP);
        empty.begin(232, 127, 77, 224, 63, 0, Story.ROUTINE / 2, Story.G0);
        Check.same("the top, which it does not have", empty.machine.run(9), 2);
        Check.same("it was not left", empty.machine.routines(), 1);
    }

    private static void theStory() {
        Check.same("returns 1", Story.of(Story.RETURN_1).machine.run(1), 1);
        Check.same("returns 0", Story.of(Story.RETURN_0).machine.run(1), 1);
        Check.same("returns x", Story.of(155, 5).machine.run(1), 1);
        StoryMachine top = Story.of(232, 127, 5, Story.RETURN_TOP).machine;
        Check.same("returns the top", top.run(2), 1);
        Check.same("which went", top.stack(-1), 0);
        Check.same("place", top.place(), Story.CODE + 3);
        Check.same("an empty stack is seen first", Story.of(Story.RETURN_TOP).machine.run(1), 2);
    }

    private static void nothingAndNewLines() {
        Story story = Story.of(Story.NOTHING, Story.NEW_LINE, 232, 127, 5, Story.TOP_GOES, Story.END);
        Check.same("run", story.machine.run(9), 5);
        Check.same("steps", story.machine.steps(), 5);
        Check.isTrue("a new line", story.text().equals("\r"));
        Check.same("the top went", story.machine.stack(-1), 0);
        Check.same("an empty stack", Story.of(Story.TOP_GOES).machine.run(1), 2);
    }
}
