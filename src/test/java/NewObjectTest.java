/** Promise 1. */
public final class NewObjectTest {
    public static void main(String[] args) {
        StoryMachine x = new StoryMachine();
        StoryMachine other = new StoryMachine();
        for (int place = 0; place < 256; place++) {
            Check.same("byte " + place, x.peek(place), 0);
            Check.same("byte " + (256 + place), other.peek(256 + place), 0);
        }
        Check.same("place", x.place(), -1);
        Check.same("steps", x.steps(), 0);
        Check.same("routines", x.routines(), 0);
        Check.same("output", x.output(-1), 0);
        Check.same("stack", x.stack(-1), 0);
        Check.same("locals", x.local(0), 0);
        Check.refused("run", IllegalStateException.class, () -> x.run(1));

        x.poke(20, 7, 1);
        Check.same("another object has its own memory", other.peek(20), 0);
        Check.end();
    }
}
