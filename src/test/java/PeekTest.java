/** Promise 3. */
public final class PeekTest {
    public static void main(String[] args) {
        StoryMachine x = new StoryMachine();
        x.poke(0, 0x80, 1);
        x.poke(511, 0xFF, 1);
        Check.same("the first byte", x.peek(0), 128);
        Check.same("the last byte", x.peek(511), 255);
        for (int place : new int[] {-1, 512, 65536, Integer.MIN_VALUE, Integer.MAX_VALUE}) {
            Check.refused("place " + place, IllegalArgumentException.class, () -> x.peek(place));
        }
        Check.end();
    }
}
