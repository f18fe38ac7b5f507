/** Promise 11, and what a routine has of the stack. */
public final class StackTest {
    public static void main(String[] args) {
        tellsWordsFromTheTop();
        holdsFortyEight();
        aRoutineHasItsOwn();
        Check.end();
    }

    private static void tellsWordsFromTheTop() {
        StoryMachine fresh = new StoryMachine();
        Check.same("new", fresh.stack(-1), 0);
        Check.refused("none", IndexOutOfBoundsException.class, () -> fresh.stack(0));
        StoryMachine x = Story.of(232, 63, 255, 255, 232, 127, 7, 232, 63, 128, 0, Story.TOP_GOES).machine;
        x.run(3);
        Check.same("three", x.stack(-1), 3);
        Check.same("top", x.stack(0), 32768);
        Check.same("below", x.stack(1), 7);
        Check.same("lowest", x.stack(2), 65535);
        for (int k : new int[] {-2, 3, 48, Integer.MIN_VALUE, Integer.MAX_VALUE}) {
            Check.refused("k " + k, IndexOutOfBoundsException.class, () -> x.stack(k));
        }
        x.run(1);
        Check.same("two", x.stack(-1), 2);
        Check.same("top", x.stack(0), 7);
        Check.refused("gone", IndexOutOfBoundsException.class, () -> x.stack(2));
    }

    private static void holdsFortyEight() {
        StoryMachine x = Story.of(232, Story.types("v"), Story.G0, 149, Story.G0, 140, 255, 250).machine;
        Check.same("48 words", x.run(48 * 3), 0);
        Check.same("48", x.stack(-1), 48);
        Check.same("the lowest", x.stack(47), 0);
        Check.same("the top", x.stack(0), 47);
        Check.refused("below the lowest", IndexOutOfBoundsException.class, () -> x.stack(48));
        Check.same("one too many", x.run(1), 2);
        Check.same("still 48", x.stack(-1), 48);

        StoryMachine given = Story.of(20, 1, 2, Story.TOP, 140, 255, 251).machine;
        Check.same("48 given words", given.run(96), 0);
        Check.same("one given too many", given.run(1), 2);
        Check.same("48", given.stack(-1), 48);
    }

    private static void aRoutineHasItsOwn() {
        Story story = new Story().bytes(Story.ROUTINE, 0, 232, 127, 5, 232, 127, 6, Story.TOP_GOES,
                Story.TOP_GOES, Story.TOP_GOES);
        story.begin(232, 127, 3, 224, 63, 0, Story.ROUTINE / 2, Story.TOP);
        StoryMachine x = story.machine;
        x.run(4);
        Check.same("those of all routines", x.stack(-1), 3);
        Check.same("the story's", x.stack(2), 3);
        Check.same("two go", x.run(2), 0);
        Check.same("the third one is not the routine's", x.run(1), 2);
        Check.same("it stays", x.stack(0), 3);
        Check.same("one", x.stack(-1), 1);
    }
}
