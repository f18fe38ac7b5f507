/** Promise 7. */
public final class RunTest {
    public static void main(String[] args) {
        refusesWrongNumbers();
        refusesWhatCannotGoOn();
        doesSoManySteps();
        tellsTheTrouble();
        triesAWaitingStepAnew();
        Check.end();
    }

    private static void refusesWrongNumbers() {
        Story story = Story.of(140, 255, 255);
        for (int steps : new int[] {0, -1, 301, Integer.MIN_VALUE, Integer.MAX_VALUE}) {
            Check.refused("steps " + steps, IllegalArgumentException.class, () -> story.machine.run(steps));
            Check.refused("told before the state", IllegalArgumentException.class, () -> new StoryMachine().run(steps));
        }
        Check.same("nothing was done", story.machine.steps(), 0);
        Check.same("1", story.machine.run(1), 0);
        Check.same("300", story.machine.run(300), 0);
        Check.same("steps", story.machine.steps(), 301);
    }

    private static void refusesWhatCannotGoOn() {
        Check.refused("no story", IllegalStateException.class, () -> new StoryMachine().run(1));
        StoryMachine ended = Story.of(Story.END, Story.END).machine;
        Check.same("ends", ended.run(2), 5);
        Check.refused("has ended", IllegalStateException.class, () -> ended.run(1));
        int[][] troubles = {{0}, {Story.TOP_GOES}, {23, 1, 0, Story.G0}};
        for (int i = 0; i < troubles.length; i++) {
            Story story = Story.of(troubles[i]);
            Check.same("trouble " + (i + 1), story.machine.run(3), i + 1);
            story.bytes(Story.CODE, Story.NOTHING);
            Check.refused("had trouble " + (i + 1), IllegalStateException.class, () -> story.machine.run(1));
        }
    }

    private static void doesSoManySteps() {
        Story story = Story.of(Story.NOTHING, Story.NOTHING, Story.NOTHING, Story.END);
        Check.same("two", story.machine.run(2), 0);
        Check.same("place", story.machine.place(), Story.CODE + 2);
        Check.same("one", story.machine.run(1), 0);
        Check.same("the end is the last step", story.machine.run(1), 5);
        StoryMachine more = Story.of(Story.NOTHING, Story.END, Story.NOTHING).machine;
        Check.same("no step behind the end", more.run(300), 5);
        Check.same("steps", more.steps(), 2);
    }

    private static void tellsTheTrouble() {
        StoryMachine bad = Story.of(Story.NOTHING, 183).machine;
        Check.same("1", bad.run(300), 1);
        StoryMachine empty = Story.of(Story.NOTHING, Story.TOP_GOES).machine;
        Check.same("2", empty.run(300), 2);
        StoryMachine division = Story.of(Story.NOTHING, 24, 5, 0, Story.G0).machine;
        Check.same("3", division.run(300), 3);
        StoryMachine waiting = Story.of(Story.NOTHING, 228, 95, 200, 240).machine;
        Check.same("4", waiting.run(300), 4);
    }

    private static void triesAWaitingStepAnew() {
        Story story = new Story().bytes(200, 5).bytes(240, 0)
                .begin(228, 95, 200, 240, Story.END);
        for (int i = 0; i < 3; i++) {
            Check.same("waits", story.machine.run(300), 4);
            Check.same("place", story.machine.place(), Story.CODE);
            Check.same("steps", story.machine.steps(), 0);
        }
        story.bytes(Story.CODE, Story.END);
        Check.same("the step is read anew", story.machine.run(1), 5);
    }
}
