/** Terms: a call and its return. */
public final class CallTest {
    private static final int CALL = 224;
    private static final int AT = Story.ROUTINE / 2;

    public static void main(String[] args) {
        locals();
        routineNothing();
        badRoutines();
        tooManyIsSeenFirst();
        localsOfTenRoutines();
        returning();
        fullStackAtReturn();
        Check.end();
    }

    private static Story routine(int count) {
        Story story = new Story().bytes(Story.ROUTINE, count);
        for (int i = 0; i < count; i++) {
            story.word(Story.ROUTINE + 1 + 2 * i, 100 + i);
        }
        return story;
    }

    private static void due(Story story, int count, int... values) {
        Check.same("run", story.machine.run(1), 0);
        Check.same("routines", story.machine.routines(), 1);
        Check.same("place", story.machine.place(), Story.ROUTINE + 1 + 2 * count);
        Check.same("locals", story.machine.local(0), count);
        for (int i = 0; i < values.length; i++) {
            Check.same("local " + (i + 1), story.machine.local(i + 1), values[i]);
        }
    }

    private static void locals() {
        due(routine(0).begin(CALL, 127, AT, 16), 0, 0, 0);
        due(routine(2).begin(CALL, 127, AT, 16), 2, 100, 101, 0);
        due(routine(3).begin(CALL, 95, AT, 7, 16), 3, 7, 101, 102, 0);
        due(routine(3).begin(CALL, 85, AT, 7, 8, 9, 16), 3, 7, 8, 9, 0);
        due(routine(4).begin(CALL, 85, AT, 7, 8, 9, 16), 4, 7, 8, 9, 103);
        due(routine(1).begin(CALL, 85, AT, 7, 8, 9, 16), 1, 7, 0, 0);
        due(routine(0).begin(CALL, 85, AT, 7, 8, 9, 16), 0, 0, 0, 0);
        due(routine(15).begin(CALL, 95, AT, 7, 16), 15, 7, 101, 102);
        due(routine(2).begin(CALL, Story.types("bww"), AT, 255, 255, 128, 0, 16), 2, 65535, 32768);
    }

    private static void routineNothing() {
        Story story = Story.of(CALL, 95, 0, 7, Story.G0, Story.END).word(Story.GLOBALS, 99);
        Check.same("run", story.machine.run(2), 5);
        Check.same("gives 0", story.global(Story.G0), 0);
        Check.same("no routine", story.machine.routines(), 0);
        Story pushed = Story.of(CALL, 127, 0, Story.TOP, Story.END);
        Check.same("to the stack", pushed.machine.run(2), 5);
        Check.same("a word", pushed.machine.stack(-1), 1);
        Check.same("0", pushed.machine.stack(0), 0);
    }

    private static void badRoutines() {
        Story sixteen = routine(0).bytes(Story.ROUTINE, 16).begin(CALL, 127, AT, 16);
        Check.same("sixteen locals", sixteen.machine.run(1), 1);
        Check.same("not called", sixteen.machine.routines(), 0);
        Check.same("place", sixteen.machine.place(), Story.CODE);
        Check.same("outside", Story.of(CALL, 63, 1, 0, 16).machine.run(1), 1);
        Story cut = new Story().bytes(510, 1).begin(CALL, 127, 255, 16);
        Check.same("locals that are not all there", cut.machine.run(1), 1);
        Check.same("not called", cut.machine.routines(), 0);
        Check.same("no locals", cut.machine.local(0), 0);
        Story last = new Story().bytes(510, 0, Story.RETURN_1).begin(CALL, 127, 255, 16, Story.END);
        Check.same("the last bytes", last.machine.run(3), 5);
    }

    private static void tooManyIsSeenFirst() {
        // The routine calls what G0 names; it is itself ten times, then another.
        Story story = new Story().bytes(Story.ROUTINE, 0, CALL, Story.types("v"), Story.G0, Story.G1, Story.END);
        story.word(Story.GLOBALS, AT).begin(CALL, 127, AT, Story.G1);
        Check.same("ten", story.machine.run(10), 0);
        Check.same("ten", story.machine.routines(), 10);
        story.word(Story.GLOBALS, 65535);
        Check.same("before the routine's place", story.machine.run(1), 2);
        story.word(Story.GLOBALS, AT);
        story.machine.begin();
        story.machine.run(10);
        story.word(Story.GLOBALS, 0);
        Check.same("x 0 calls nothing", story.machine.run(2), 5);
    }

    private static void localsOfTenRoutines() {
        // Each has fifteen locals; the first is one more than that of the one that called it.
        Story story = routine(15).bytes(Story.ROUTINE + 31, 149, 1, CALL, Story.types("bv"), AT, 1, 15, 155, 77);
        story.begin(CALL, 95, AT, 0, 16);
        Check.same("ten", story.machine.run(19), 0);
        Check.same("ten", story.machine.routines(), 10);
        Check.same("the first", story.machine.local(1), 9);
        Check.same("the last", story.machine.local(15), 114);
        Check.same("rises", story.machine.run(1), 0);
        story.bytes(Story.ROUTINE + 33, 155, 77);
        for (int depth = 9; depth >= 1; depth--) {
            Check.same("returns", story.machine.run(1), 0);
            Check.same("its place", story.machine.place(), Story.ROUTINE + 38);
            Check.same("its first", story.machine.local(1), depth);
            Check.same("its last is what was given", story.machine.local(15), 77);
            Check.same("the one before", story.machine.local(14), 113);
        }
    }

    private static void returning() {
        // The routine returns its local plus 1; the story gives that to the stack, then to a global.
        Story story = new Story().bytes(Story.ROUTINE, 1, 0, 0, 20 + 64, 1, 1, 0, Story.RETURN_TOP);
        story.begin(CALL, 95, AT, 5, 0, CALL, Story.types("bv"), AT, 0, Story.G0, Story.END);
        Check.same("first", story.machine.run(3), 0);
        Check.same("on the stack", story.machine.stack(0), 6);
        Check.same("one word", story.machine.stack(-1), 1);
        Check.same("place", story.machine.place(), Story.CODE + 5);
        Check.same("second", story.machine.run(4), 5);
        Check.same("given", story.global(Story.G0), 7);
        Check.same("no word", story.machine.stack(-1), 0);
        // A value that is given to a local of the routine that called.
        Story local = new Story().bytes(Story.ROUTINE, 1, 0, 0, CALL, 127, Story.FREE / 2, 1, Story.NOTHING);
        local.bytes(Story.FREE, 2, 0, 0, 0, 0, 155, 44).begin(CALL, 127, AT, 16);
        Check.same("to a local", local.machine.run(3), 0);
        Check.same("of the outer routine", local.machine.local(1), 44);
        Check.same("it has one", local.machine.local(0), 1);
    }

    private static void fullStackAtReturn() {
        Story story = new Story().bytes(Story.ROUTINE, 0, 232, 127, 5, Story.RETURN_1);
        // Fills the stack with 47 words, calls, puts the 48th there, and returns to the stack.
        story.begin(232, 127, 3, 5, Story.G0, 46, 63, 250, CALL, 127, AT, 0, Story.END);
        Check.same("47 words", story.machine.run(94), 0);
        Check.same("47", story.machine.stack(-1), 47);
        Check.same("one more in the routine", story.machine.run(2), 0);
        Check.same("48", story.machine.stack(-1), 48);
        Check.same("its words go before the value comes", story.machine.run(2), 5);
        Check.same("48", story.machine.stack(-1), 48);
        Check.same("the value", story.machine.stack(0), 1);

        Story full = new Story().bytes(Story.ROUTINE, 0, Story.RETURN_1);
        full.begin(232, 127, 3, 5, Story.G0, 47, 63, 250, CALL, 127, AT, 0, Story.END);
        Check.same("48 words and a call", full.machine.run(97), 0);
        Check.same("full", full.machine.run(1), 2);
        Check.same("the routine was left", full.machine.routines(), 0);
        Check.same("place", full.machine.place(), Story.ROUTINE + 1);
    }
}
