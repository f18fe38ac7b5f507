/** Promise 8. */
public final class StepsTest {
    public static void main(String[] args) {
        StoryMachine x = new StoryMachine();
        Check.same("new", x.steps(), 0);
        Story story = Story.of(Story.NOTHING, Story.SAVE, 128 + 64 + 2, Story.NOTHING, Story.END);
        Check.same("begun", story.machine.steps(), 0);
        story.machine.run(3);
        Check.same("three", story.machine.steps(), 3);
        story.machine.run(3);
        Check.same("the end is a step", story.machine.steps(), 4);
        story.machine.begin();
        Check.same("begun anew", story.machine.steps(), 0);

        StoryMachine trouble = Story.of(Story.NOTHING, Story.TOP_GOES).machine;
        trouble.run(9);
        Check.same("a step with trouble is not done", trouble.steps(), 1);
        StoryMachine waiting = Story.of(Story.NOTHING, 228, 95, 200, 240).machine;
        waiting.run(9);
        waiting.run(9);
        Check.same("a step that waits is not done", waiting.steps(), 1);

        Story restored = Story.of(Story.SAVE, 192 + 2, Story.RESTORE, 192 + 2);
        restored.machine.run(7);
        Check.same("RESTORE does not bring steps back", restored.machine.steps(), 7);
        Check.end();
    }
}
