/** The SECOND list, where no other test has it. */
public final class SecondTest {
    public static void main(String[] args) {
        comparisons();
        sameAsAny();
        countingAndAsking();
        bits();
        arithmetic();
        division();
        words();
        Check.end();
    }

    private static void asks(int operation, int x, int y, int due) {
        Check.same(operation + " of " + x + " and " + y, Story.asking(operation, x, y).asked(), due);
    }

    private static void gives(int operation, int x, int y, int due) {
        Story story = Story.giving(operation, x, y);
        Check.same("run " + operation + " of " + x + " and " + y, story.machine.run(2), 5);
        Check.same(operation + " of " + x + " and " + y, story.global(Story.G0), due & 65535);
    }

    private static void comparisons() {
        asks(2, 1, 2, 1);
        asks(2, 2, 2, 0);
        asks(2, -1, 0, 1);
        asks(2, 0, -1, 0);
        asks(2, -32768, 32767, 1);
        asks(3, 2, 1, 1);
        asks(3, 2, 2, 0);
        asks(3, 0, -1, 1);
        asks(3, -1, 0, 0);
        asks(3, 32767, -32768, 1);
    }

    private static void sameAsAny() {
        asks(1, 7, 7, 1);
        asks(1, 7, 8, 0);
        asks(1, -1, 65535, 1);
        asks(1, 255, -1, 0);
        int[][] rows = {{9, 1, 2, 9, 1}, {9, 1, 9, 2, 1}, {9, 9, 1, 2, 1}, {9, 1, 1, 1, 0}};
        for (int[] row : rows) {
            Story story = Story.of(193, Story.types("bbbb"), row[0], row[1], row[2], row[3], 195, Story.END,
                    13, Story.G0, 1, Story.END);
            Check.same("four numbers", story.asked(), row[4]);
        }
        Story three = Story.of(193, Story.types("bbb"), 9, 1, 2, 195, Story.END, 13, Story.G0, 1, Story.END);
        Check.same("three numbers", three.asked(), 0);
    }

    private static void countsAndAsks(int operation, int before, int y, int due, int after) {
        Story story = Story.of(192 + operation, Story.types("bw"), Story.G1, Story.high(y), Story.low(y), 195,
                Story.END, 13, Story.G0, 1, Story.END).word(Story.GLOBALS + 2, before);
        Check.same(operation + " from " + before + " with " + y, story.asked(), due);
        Check.same("after it", story.global(Story.G1), after & 65535);
    }

    private static void countingAndAsking() {
        countsAndAsks(4, 5, 5, 1, 4);
        countsAndAsks(4, 5, 4, 0, 4);
        countsAndAsks(4, 0, 0, 1, -1);
        countsAndAsks(4, -32768, 0, 0, 32767);
        countsAndAsks(4, 0, -1, 0, -1);
        countsAndAsks(5, 5, 5, 1, 6);
        countsAndAsks(5, 5, 6, 0, 6);
        countsAndAsks(5, -1, -1, 1, 0);
        countsAndAsks(5, 32767, 0, 0, -32768);
        countsAndAsks(5, -2, 0, 0, -1);
    }

    private static void bits() {
        asks(7, 0xF0F0, 0x8010, 1);
        asks(7, 0xF0F0, 0x8011, 0);
        asks(7, 5, 0, 1);
        gives(8, 0xF0F0, 0x8011, 0xF0F1);
        gives(9, 0xF0F0, 0x8011, 0x8010);
    }

    private static void arithmetic() {
        gives(20, 32767, 1, -32768);
        gives(20, -1, 1, 0);
        gives(20, -5, 3, -2);
        gives(21, 3, 5, -2);
        gives(21, -32768, 1, 32767);
        gives(22, -3, 7, -21);
        gives(22, 300, 300, 90000);
        gives(22, -32768, -32768, 0);
        gives(22, -1, -1, 1);
    }

    private static void division() {
        gives(23, 7, 2, 3);
        gives(23, -7, 2, -3);
        gives(23, 7, -2, -3);
        gives(23, -7, -2, 3);
        gives(23, -32768, -1, 32768);
        gives(24, 7, 3, 1);
        gives(24, -7, 3, -1);
        gives(24, 7, -3, 1);
        gives(24, -7, -3, -1);
        gives(24, -32768, -1, 0);
        Check.same("by 0", Story.giving(23, 7, 0).machine.run(1), 3);
        Check.same("modulo 0", Story.giving(24, 7, 0).machine.run(1), 3);
        StoryMachine popped = Story.of(232, 127, 0, 23 + 32, 5, 0, Story.G0).machine;
        Check.same("by 0 of the stack", popped.run(2), 3);
        Check.same("it went", popped.stack(-1), 0);
        Check.same("place", popped.place(), Story.CODE + 3);
    }

    private static void words() {
        Story story = Story.giving(15, 400, 3).word(406, 0xABCD);
        Check.same("run", story.machine.run(2), 5);
        Check.same("the word at x + 2 y", story.global(Story.G0), 0xABCD);
        Story bytes = Story.giving(16, 400, 7).word(406, 0xABCD);
        Check.same("run", bytes.machine.run(2), 5);
        Check.same("the byte at x + y", bytes.global(Story.G0), 0xCD);
        Story variable = Story.of(13, Story.G0, 200, 205, Story.types("bw"), Story.G1, 255, 254, Story.END);
        Check.same("run", variable.machine.run(3), 5);
        Check.same("variable x becomes y", variable.global(Story.G0), 200);
        Check.same("variable x becomes y", variable.global(Story.G1), 65534);
    }
}
