/** The MANY list, where no other test has it, and random numbers. */
public final class ManyTest {
    public static void main(String[] args) {
        storing();
        puttingOut();
        pushing();
        random();
        Check.end();
    }

    private static void storing() {
        Story words = Story.of(225, Story.types("wbw"), 1, 144, 3, 0xAB, 0xCD, Story.END);
        Check.same("run", words.machine.run(2), 5);
        Check.same("the word at x + 2 y", words.wordAt(406), 0xABCD);
        Story bytes = Story.of(226, Story.types("wbw"), 1, 144, 3, 0xAB, 0xCD, Story.END);
        Check.same("run", bytes.machine.run(2), 5);
        Check.same("the byte at x + y", bytes.machine.peek(403), 0xCD);
        Check.same("not the one before", bytes.machine.peek(402), 0);
        Check.same("not the one behind", bytes.machine.peek(404), 0);
    }

    private static void number(int value, String due) {
        Story story = Story.of(230, 63, Story.high(value), Story.low(value), Story.END);
        Check.same("run", story.machine.run(2), 5);
        Check.isTrue(value + " is put out as " + story.text(), story.text().equals(due));
    }

    private static void puttingOut() {
        for (int value : new int[] {0, 1, 9, 10, 99, 100, 105, 1000, 9999, 10000, 32767, -1, -10, -205, -32768}) {
            number(value, Integer.toString(value));
        }
        number(65535, "-1");
        Story character = Story.of(229, 63, 1, 65, 229, 63, 255, 255, 229, 127, 0, Story.END);
        Check.same("run", character.machine.run(9), 5);
        Check.isTrue("characters modulo 256", character.text().equals("A\u00ff\u0000"));
    }

    private static void pushing() {
        StoryMachine x = Story.of(232, 63, 255, 254, Story.END).machine;
        Check.same("run", x.run(2), 5);
        Check.same("put on the stack", x.stack(0), 65534);
    }

    /** Numbers for x, one after the other on one object. */
    private static void draws(int[] xs, int[] due) {
        Story story = Story.of(231, Story.types("v"), Story.G0, Story.G1, 140, 255, 251);
        for (int i = 0; i < xs.length; i++) {
            story.word(Story.GLOBALS, xs[i]).word(Story.GLOBALS + 2, 4444);
            Check.same("draw", story.machine.run(2), 0);
            Check.same("draw " + i + " for " + xs[i], story.global(Story.G1), due[i]);
        }
    }

    private static void random() {
        // s: 7, 98, 1281 % 1024 = 257, 3348 % 1024 = 276
        draws(new int[] {32767, 32767, 32767, 32767}, new int[] {8, 99, 258, 277});
        draws(new int[] {6, 6, 6, 1}, new int[] {2, 3, 6, 1});
        // 0 begins anew; -5 makes s 5, then 72; -1029 makes s 5 too; -32768 makes s 0
        draws(new int[] {6, 0, 1000, -5, 1000, -1029, 1000, -32768, 1000},
                new int[] {2, 0, 8, 0, 73, 0, 73, 0, 8});
    }
}
