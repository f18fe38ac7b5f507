/** Promise 13. */
public final class RoutinesTest {
    public static void main(String[] args) {
        Check.same("new", new StoryMachine().routines(), 0);
        // A routine that counts G0 up and calls itself until it is G1, then returns.
        Story story = new Story();
        story.bytes(Story.ROUTINE, 0,
                149, Story.G0,
                97, Story.G0, Story.G1, 192,
                224, 63, 0, Story.ROUTINE / 2, Story.G2, Story.RETURN_1);
        story.begin(224, 63, 0, Story.ROUTINE / 2, Story.G2, Story.END);
        StoryMachine x = story.machine;
        Check.same("begun", x.routines(), 0);
        story.word(Story.GLOBALS + 2, 10);
        Check.same("ten", x.run(1 + 3 * 9), 0);
        Check.same("ten were called", x.routines(), 10);
        Check.same("count and ask", x.run(1), 0);
        Check.same("returns", x.run(1), 0);
        Check.same("one has returned", x.routines(), 9);
        Check.same("all return", x.run(9), 0);
        Check.same("none", x.routines(), 0);
        Check.same("end", x.run(1), 5);

        story.word(Story.GLOBALS, 0).word(Story.GLOBALS + 2, 99);
        x.begin();
        Check.same("ten, and the tenth up to its call", x.run(1 + 3 * 9 + 2), 0);
        Check.same("one more is too many", x.run(1), 2);
        Check.same("still ten", x.routines(), 10);
        Check.same("the place of the call", x.place(), Story.ROUTINE + 7);
        x.begin();
        Check.same("begun anew", x.routines(), 0);
        Check.end();
    }
}
