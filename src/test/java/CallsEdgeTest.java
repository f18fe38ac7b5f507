/** "An object is used for at most 512 calls after it has been made": up to the 512th all answers are as due. */
public final class CallsEdgeTest extends Edge {
    private static final int CALLS = 512;

    public static void main(String[] args) {
        theMostSteps();
        theMostCharacters();
        theMostPokes();
        theMostLines();
        theMostRefusals();
        theMostStories();
        theMostTroubles();
        Check.end();
    }

    /** Four calls make the story, one asks at the end. */
    private static void theMostSteps() {
        StoryMachine x = new StoryMachine();
        x.poke(4, CODE, 2);
        x.poke(12, 512, 2);
        x.poke(CODE, 0x8CFFFFL, 3);
        x.begin();
        for (int call = 5; call < CALLS; call++) {
            Check.same("run " + call, x.run(300), 0);
        }
        Check.same("the 512th call", x.steps(), 300 * (CALLS - 5));
    }

    /** A text of 735 spaces, from 22 to the end of the memory, is put out again and again. */
    private static void theMostCharacters() {
        StoryMachine x = new StoryMachine();
        x.poke(4, 16, 2);
        x.poke(16, 0x97168CFFFDL, 5);
        x.poke(510, 0x8000, 2);
        x.begin();
        int runs = CALLS - 4 - 2;
        for (int run = 0; run < runs; run++) {
            Check.same("run " + run, x.run(300), 0);
        }
        Check.same("the 511th call", x.output(-1), runs * 150 * 735);
        Check.same("the 512th call", x.output(63), ' ');
    }

    private static void theMostPokes() {
        StoryMachine x = new StoryMachine();
        for (int i = 0; i < CALLS / 2; i++) {
            x.poke(2 * i, 255 - i, 1);
            Check.same("byte " + 2 * i, x.peek(2 * i), 255 - i);
        }
        StoryMachine y = new StoryMachine();
        for (int i = 0; i < CALLS - 1; i++) {
            y.poke(504, i, 8);
        }
        Check.same("the 512th call", y.peek(511), (CALLS - 2) % 256);
    }

    private static void theMostLines() {
        Story story = new Story().bytes(200, 9);
        story.begin(join(many(4, "bb", 200, 220), first(12, -5)));
        int calls = 8;
        for (int i = 0; calls + 5 <= CALLS; i++) {
            int character = 'a' + i % 26;
            story.machine.type(character, 1);
            story.machine.enter();
            Check.same("reads", story.machine.run(2), 0);
            Check.same("the character", story.machine.peek(201), character);
            Check.same("waits", story.machine.run(1), 4);
            calls += 5;
        }
    }

    private static void theMostRefusals() {
        StoryMachine x = new StoryMachine();
        for (int call = 1; call < CALLS - 1; call += 5) {
            Check.refused("poke", IllegalArgumentException.class, () -> x.poke(512, 1, 1));
            Check.refused("run", IllegalStateException.class, () -> x.run(1));
            Check.refused("output", IndexOutOfBoundsException.class, () -> x.output(0));
            Check.refused("local", IndexOutOfBoundsException.class, () -> x.local(16));
            Check.refused("type", IllegalArgumentException.class, () -> x.type(0, 1));
        }
        Check.same("the 511th call", x.place(), -1);
        Check.same("the 512th call", x.peek(511), 0);
    }

    private static void theMostStories() {
        Story story = new Story().bytes(CODE, join(many(8, "b", 7), none(11), none(10)));
        int calls = 6;
        for (; calls + 3 <= CALLS; calls += 3) {
            story.machine.begin();
            Check.same("run", story.machine.run(300), 5);
            Check.same("words", story.machine.stack(-1), 1);
        }
    }

    private static void theMostTroubles() {
        int[][] codes = {{0, 1, 1}, {Story.TOP_GOES, 0, 0}, {23, 1, 0}};
        Story story = new Story();
        int calls = 5;
        for (int i = 0; calls + 4 <= CALLS; i++) {
            story.begin(codes[i % 3]);
            Check.same("run", story.machine.run(300), 1 + i % 3);
            Check.same("place", story.machine.place(), CODE);
            calls += 4;
        }
    }
}
