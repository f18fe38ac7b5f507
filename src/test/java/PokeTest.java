/** Promise 2. */
public final class PokeTest {
    public static void main(String[] args) {
        writesTheLowestBytes();
        refusesWrongNumbers();
        refusesWrongPlaces();
        writesWhereTheStoryCannot();
        Check.end();
    }

    private static void writesTheLowestBytes() {
        StoryMachine x = new StoryMachine();
        x.poke(100, 0x0102030405060708L, 3);
        int[] due = {0, 6, 7, 8, 0};
        for (int i = 0; i < due.length; i++) {
            Check.same("three bytes, " + (99 + i), x.peek(99 + i), due[i]);
        }
        x.poke(100, 0xF1F2F3F4F5F6F7F8L, 8);
        for (int i = 0; i < 8; i++) {
            Check.same("eight bytes, " + (100 + i), x.peek(100 + i), 0xF1 + i);
        }
        x.poke(100, -1, 1);
        Check.same("one byte", x.peek(100), 255);
        Check.same("the byte behind it", x.peek(101), 0xF2);
    }

    private static void refusesWrongNumbers() {
        StoryMachine x = new StoryMachine();
        for (int n : new int[] {0, -1, 9, Integer.MIN_VALUE, Integer.MAX_VALUE}) {
            Check.refused("n " + n, IllegalArgumentException.class, () -> x.poke(0, -1, n));
        }
        for (int place = 0; place < 300; place++) {
            Check.same("nothing was written at " + place, x.peek(place), 0);
        }
        for (int n = 1; n <= 8; n++) {
            int number = n;
            Check.allowed("n " + n, () -> x.poke(0, 0, number));
        }
    }

    private static void refusesWrongPlaces() {
        StoryMachine x = new StoryMachine();
        for (int place : new int[] {-1, -8, 512, 513, Integer.MIN_VALUE, Integer.MAX_VALUE}) {
            Check.refused("place " + place, IllegalArgumentException.class, () -> x.poke(place, -1, 1));
        }
        for (int n = 1; n <= 8; n++) {
            int number = n;
            Check.refused("one too far, n " + n, IllegalArgumentException.class, () -> x.poke(513 - number, -1, number));
            Check.same("nothing was written", x.peek(511), 0);
        }
        for (int n = 1; n <= 8; n++) {
            int number = n;
            Check.allowed("the last ones, n " + n, () -> x.poke(512 - number, -1, number));
            Check.same("the first of them", x.peek(512 - n), 255);
        }
        Check.allowed("the first place", () -> x.poke(0, 9, 1));
        Check.same("is written", x.peek(0), 9);
    }

    private static void writesWhereTheStoryCannot() {
        Story story = Story.of(Story.END).word(12, 0);
        story.machine.poke(300, 77, 1);
        Check.same("behind the base", story.machine.peek(300), 77);
        story.machine.run(1);
        story.machine.poke(300, 78, 1);
        Check.same("when the story has ended", story.machine.peek(300), 78);
    }
}
