/** Promise 12. */
public final class LocalTest {
    public static void main(String[] args) {
        StoryMachine fresh = new StoryMachine();
        for (int k = 0; k <= 15; k++) {
            Check.same("new " + k, fresh.local(k), 0);
        }
        for (int k : new int[] {-1, 16, Integer.MIN_VALUE, Integer.MAX_VALUE}) {
            Check.refused("k " + k, IndexOutOfBoundsException.class, () -> fresh.local(k));
        }

        // The outer routine has fifteen locals, the inner one two.
        Story story = new Story();
        story.bytes(Story.ROUTINE, 15);
        for (int i = 1; i <= 15; i++) {
            story.word(Story.ROUTINE - 1 + 2 * i, 65536 - i);
        }
        story.bytes(Story.ROUTINE + 31, 224, 63, 0, Story.FREE / 2, Story.G0, Story.NOTHING);
        story.bytes(Story.FREE, 2, 1, 2, 3, 4, 205, Story.types("bw"), 2, 255, 254, Story.RETURN_0);
        story.begin(224, 63, 0, Story.ROUTINE / 2, Story.G0, Story.END);
        StoryMachine x = story.machine;
        Check.same("the story has none", x.local(0), 0);
        x.run(1);
        Check.same("fifteen", x.local(0), 15);
        for (int k = 1; k <= 15; k++) {
            Check.same("local " + k, x.local(k), 65536 - k);
        }
        Check.refused("16", IndexOutOfBoundsException.class, () -> x.local(16));
        x.run(1);
        Check.same("two", x.local(0), 2);
        Check.same("first", x.local(1), 258);
        Check.same("second", x.local(2), 772);
        for (int k = 3; k <= 15; k++) {
            Check.same("not there " + k, x.local(k), 0);
        }
        x.run(1);
        Check.same("set", x.local(2), 65534);
        Check.same("not set", x.local(1), 258);
        x.run(1);
        Check.same("those of the outer one again", x.local(0), 15);
        Check.same("as they were", x.local(2), 65534);
        Check.same("as they were", x.local(1), 65535);
        Check.same("as they were", x.local(15), 65521);
        Check.end();
    }
}
