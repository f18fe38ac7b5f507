/** Promise 10. */
public final class OutputTest {
    public static void main(String[] args) {
        StoryMachine fresh = new StoryMachine();
        Check.same("nothing", fresh.output(-1), 0);
        Check.refused("none", IndexOutOfBoundsException.class, () -> fresh.output(0));

        // Puts out the global as a character and counts it up, for ever.
        Story story = Story.of(229, Story.types("v"), Story.G0, 149, Story.G0, 140, 255, 250);
        StoryMachine x = story.machine;
        x.run(9);
        Check.same("three", x.output(-1), 3);
        Check.same("the latest", x.output(0), 2);
        Check.same("the first", x.output(2), 0);
        Check.refused("before the first", IndexOutOfBoundsException.class, () -> x.output(3));
        x.run(180);
        Check.same("63", x.output(-1), 63);
        Check.refused("63 back", IndexOutOfBoundsException.class, () -> x.output(63));
        x.run(3);
        Check.same("64 back", x.output(63), 0);
        x.run(3);
        Check.same("65", x.output(-1), 65);
        for (int k = 0; k < 64; k++) {
            Check.same("latest " + k, x.output(k), 64 - k);
        }
        for (int k : new int[] {-2, 64, 65, Integer.MIN_VALUE, Integer.MAX_VALUE}) {
            Check.refused("k " + k, IndexOutOfBoundsException.class, () -> x.output(k));
        }
        x.run(300);
        x.run(300);
        Check.same("265", x.output(-1), 265);
        Check.same("characters are modulo 256", x.output(0), 264 % 256);
        Check.same("the oldest that is kept", x.output(63), 264 - 63);
        x.begin();
        Check.same("begun anew", x.output(-1), 0);
        Check.refused("none any more", IndexOutOfBoundsException.class, () -> x.output(0));
        Check.end();
    }
}
