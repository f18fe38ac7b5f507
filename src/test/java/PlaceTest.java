/** Promise 9. */
public final class PlaceTest {
    public static void main(String[] args) {
        Check.same("no story", new StoryMachine().place(), -1);
        StoryMachine x = Story.of(20, 1, 2, Story.TOP, Story.END).machine;
        Check.same("begun", x.place(), Story.CODE);
        x.run(1);
        Check.same("behind a step", x.place(), Story.CODE + 4);
        x.run(1);
        Check.same("behind the end", x.place(), Story.CODE + 5);

        StoryMachine trouble = Story.of(Story.NOTHING, 192 + 20, Story.types("bv"), 1, Story.TOP, Story.G0).machine;
        Check.same("an empty stack", trouble.run(3), 2);
        Check.same("the place of the instruction", trouble.place(), Story.CODE + 1);

        StoryMachine jump = Story.of(140, 1, 200).machine;
        Check.same("a jump out of the memory is done", jump.run(1), 0);
        Check.same("forwards", jump.place(), Story.CODE + 3 + 456 - 2);
        Check.same("there is no byte there", jump.run(1), 1);
        Check.same("the place stays", jump.place(), Story.CODE + 3 + 456 - 2);
        StoryMachine back = Story.of(140, 128, 0).machine;
        Check.same("backwards", back.run(1), 0);
        Check.same("below the memory", back.place(), Story.CODE + 3 - 32768 - 2);
        Check.same("there is no byte there", back.run(1), 1);

        Story last = new Story().word(4, 511).bytes(511, Story.NOTHING);
        last.machine.begin();
        Check.same("the last byte is done", last.machine.run(1), 0);
        Check.same("behind it", last.machine.place(), 512);
        Check.same("there is nothing", last.machine.run(1), 1);
        Check.end();
    }
}
