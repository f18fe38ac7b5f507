/** Terms: variables, and variables named by numbers. */
public final class VariablesTest {
    private static final int VAR = 160;

    public static void main(String[] args) {
        globals();
        localsThatAreNotThere();
        theStackAsAVariable();
        theStackNamedByANumber();
        otherVariablesNamedByNumbers();
        pulling();
        Check.end();
    }

    private static void globals() {
        Story story = Story.of(20, 1, 2, 47, 20 + 64, 47, 5, 16, Story.END);
        Check.same("first and last", story.machine.run(9), 5);
        Check.same("47", story.global(47), 3);
        Check.same("16", story.global(16), 8);
        Check.same("48 written", Story.of(20, 1, 2, 48).machine.run(1), 1);
        Check.same("48 read", Story.of(20 + 64, 48, 2, 16).machine.run(1), 1);
        Check.same("255 read", Story.of(20 + 64, 255, 2, 16).machine.run(1), 1);
        Check.same("outside of the memory", Story.of(20 + 64, 17, 2, 0).word(10, 510).machine.run(1), 1);
        Check.same("the last word", Story.of(20 + 64, 16, 2, 0).word(10, 510).machine.run(1), 0);
    }

    private static void localsThatAreNotThere() {
        Check.same("the story has none, read", Story.of(VAR, 1, 192).machine.run(1), 1);
        Check.same("written", Story.of(20, 1, 2, 1).machine.run(1), 1);
        Check.same("15", Story.of(20, 1, 2, 15).machine.run(1), 1);
        Story story = new Story().bytes(Story.ROUTINE, 2, 0, 0, 0, 0, 20, 1, 2, 2, 20, 1, 2, 3);
        story.begin(224, 63, 0, Story.ROUTINE / 2, Story.G0);
        Check.same("the second", story.machine.run(2), 0);
        Check.same("it", story.machine.local(2), 3);
        Check.same("the third", story.machine.run(1), 1);
        Story reads = new Story().bytes(Story.ROUTINE, 2, 0, 0, 0, 7, 20 + 64, 2, 1, Story.G0, VAR, 3, 192);
        reads.begin(224, 63, 0, Story.ROUTINE / 2, Story.G0);
        Check.same("reads the second", reads.machine.run(2), 0);
        Check.same("it", reads.global(Story.G0), 8);
        Check.same("reads the third", reads.machine.run(1), 1);
    }

    private static void theStackAsAVariable() {
        // 5 - 3 by the order in which the numbers are read: the top is x.
        Story story = Story.of(232, 127, 3, 232, 127, 5, 21 + 96, 0, 0, 0, Story.END);
        Check.same("run", story.machine.run(9), 5);
        Check.same("one word", story.machine.stack(-1), 1);
        Check.same("top", story.machine.stack(0), 2);
        StoryMachine one = Story.of(232, 127, 3, 21 + 96, 0, 0, 0).machine;
        Check.same("the second one is not there", one.run(2), 2);
        Check.same("the first one went", one.stack(-1), 0);
    }

    private static void theStackNamedByANumber() {
        Story load = Story.of(232, 127, 9, 158, 0, Story.G0, 158, 0, 0, Story.END);
        Check.same("load", load.machine.run(9), 5);
        Check.same("value", load.global(Story.G0), 9);
        Check.same("it stays, and is given on top", load.machine.stack(-1), 2);
        Story store = Story.of(232, 127, 9, 13, 0, 4, Story.END);
        Check.same("store", store.machine.run(9), 5);
        Check.same("replaced", store.machine.stack(-1), 1);
        Check.same("by", store.machine.stack(0), 4);
        Story rises = Story.of(232, 127, 9, 149, 0, 149, 0, 150, 0, Story.END);
        Check.same("rises, rises, falls", rises.machine.run(9), 5);
        Check.same("in place", rises.machine.stack(-1), 1);
        Check.same("value", rises.machine.stack(0), 10);
        Story asks = Story.of(232, 127, 9, 5, 0, 9, 64, 4, 0, 9, 64 + 2, Story.END);
        Check.same("asks", asks.machine.run(9), 5);
        Check.same("in place", asks.machine.stack(-1), 1);
        Check.same("value", asks.machine.stack(0), 9);
        int[][] empty = {{158, 0, Story.G0}, {13, 0, 4}, {149, 0}, {150, 0}, {4, 0, 1, 64}, {5, 0, 1, 64},
            {233, 127, 0}};
        for (int[] code : empty) {
            Check.same("empty, " + code[0], Story.of(code).machine.run(1), 2);
        }
    }

    private static void otherVariablesNamedByNumbers() {
        Story story = Story.of(13, Story.G0, 200, 149, Story.G0, 158, Story.G0, Story.G1, Story.END);
        Check.same("run", story.machine.run(9), 5);
        Check.same("value", story.global(Story.G1), 201);
        Story twice = Story.of(13 + 64, Story.G0, 5, Story.END).word(Story.GLOBALS, Story.G2);
        Check.same("named by a variable", twice.machine.run(9), 5);
        Check.same("it", twice.global(Story.G2), 5);
        int[][] bad = {{13, 48, 1}, {149, 48}, {150, 255}, {158, 48, 16}, {4, 48, 1, 64}, {5, 1, 1, 64},
            {205, 31, 1, 16, 1}, {133, 1, 16}, {13, 1, 1}};
        for (int[] code : bad) {
            Check.same("bad, " + code[0], Story.of(code).machine.run(1), 1);
        }
        Story wraps = Story.of(149, Story.G0, 150, Story.G1, Story.END).word(Story.GLOBALS, 65535);
        wraps.machine.run(9);
        Check.same("rises from -1", wraps.global(Story.G0), 0);
        Check.same("falls from 0", wraps.global(Story.G1), 65535);
    }

    private static void pulling() {
        Story story = Story.of(232, 127, 7, 233, 127, Story.G0, Story.END);
        Check.same("run", story.machine.run(9), 5);
        Check.same("value", story.global(Story.G0), 7);
        Check.same("it went", story.machine.stack(-1), 0);
        Story top = Story.of(232, 127, 7, 232, 127, 8, 233, 127, 0, Story.END);
        Check.same("to the stack", top.machine.run(9), 5);
        Check.same("replaces what was below", top.machine.stack(-1), 1);
        Check.same("by", top.machine.stack(0), 8);
        StoryMachine only = Story.of(232, 127, 7, 233, 127, 0).machine;
        Check.same("there is nothing below", only.run(9), 2);
        Check.same("it went", only.stack(-1), 0);
        StoryMachine bad = Story.of(232, 127, 7, 233, 127, 48).machine;
        Check.same("no such variable", bad.run(9), 1);
        Check.same("it went", bad.stack(-1), 0);
    }
}
