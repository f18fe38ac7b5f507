/** Promise 5. */
public final class TypeTest {
    private static final int TEXT = 200;
    private static final int WORDS = 240;

    public static void main(String[] args) {
        typesTheLowestBytesInOrder();
        refusesWrongNumbersAndCharacters();
        refusesMoreThanALineHolds();
        Check.end();
    }

    private static Story reading() {
        return new Story().bytes(TEXT, 30).bytes(WORDS, 0)
                .begin(228, 95, TEXT, WORDS, Story.END);
    }

    private static void typesTheLowestBytesInOrder() {
        Story story = reading();
        story.machine.type(0x6162636465666768L, 8);
        story.machine.type(0x6162636465666768L, 2);
        story.machine.enter();
        Check.same("run", story.machine.run(2), 5);
        String due = "abcdefghgh\0";
        for (int i = 0; i < due.length(); i++) {
            Check.same("character " + i, story.machine.peek(TEXT + 1 + i), due.charAt(i));
        }
    }

    private static void refusesWrongNumbersAndCharacters() {
        Story story = reading();
        StoryMachine x = story.machine;
        for (int n : new int[] {0, -1, 9, Integer.MIN_VALUE, Integer.MAX_VALUE}) {
            Check.refused("n " + n, IllegalArgumentException.class, () -> x.type(0x6161616161616161L, n));
        }
        for (int character : new int[] {0, 31, 127, 128, 255}) {
            Check.refused("character " + character, IllegalArgumentException.class, () -> x.type(character, 1));
            Check.refused("before a good one", IllegalArgumentException.class, () -> x.type(character * 256L + 97, 2));
            Check.refused("behind a good one", IllegalArgumentException.class, () -> x.type(97 * 256L + character, 2));
        }
        Check.allowed("what stands above the n bytes is of no matter", () -> x.type(-256L + 97, 1));
        Check.allowed("a space", () -> x.type(32, 1));
        Check.allowed("126", () -> x.type(126, 1));
        x.enter();
        x.run(2);
        Check.same("first", x.peek(TEXT + 1), 97);
        Check.same("second", x.peek(TEXT + 2), 32);
        Check.same("third", x.peek(TEXT + 3), 126);
        Check.same("what was refused is not there", x.peek(TEXT + 4), 0);
    }

    private static void refusesMoreThanALineHolds() {
        StoryMachine x = reading().machine;
        for (int i = 0; i < 23; i++) {
            x.type(97, 1);
        }
        Check.refused("25", IllegalStateException.class, () -> x.type(98 * 257L, 2));
        Check.refused("a wrong character is told first", IllegalArgumentException.class, () -> x.type(0, 2));
        Check.allowed("24", () -> x.type(99, 1));
        Check.refused("one more", IllegalStateException.class, () -> x.type(98, 1));
        x.enter();
        x.run(2);
        Check.same("the 23rd", x.peek(TEXT + 23), 97);
        Check.same("the 24th", x.peek(TEXT + 24), 99);
        Check.same("then a 0", x.peek(TEXT + 25), 0);
        Check.allowed("a line that was entered is counted no more", () -> x.type(97, 1));

        StoryMachine fresh = new StoryMachine();
        for (int i = 0; i < 3; i++) {
            Check.allowed("without a story", () -> fresh.type(0x6161616161616161L, 8));
        }
        Check.refused("too many without a story", IllegalStateException.class, () -> fresh.type(97, 1));
    }
}
