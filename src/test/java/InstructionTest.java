/** Terms: the forms of an instruction, its numbers, what it gives and its branch. */
public final class InstructionTest {
    private static final int ADD = 20;

    public static void main(String[] args) {
        twoNumbers();
        oneNumber();
        manyNumbers();
        numbersAreReadFirst();
        operationsThatAreNotThere();
        tooFewNumbers();
        otherBytesAreReadBeforeItIsDone();
        branches();
        branchesThatReturn();
        Check.end();
    }

    private static Story with(int... code) {
        return Story.of(code).word(Story.GLOBALS, 1000).word(Story.GLOBALS + 2, 300);
    }

    private static void gives(String what, int due, int... code) {
        Story story = with(code);
        Check.same(what + ", run", story.machine.run(2), 5);
        Check.same(what, story.global(Story.G2), due);
    }

    private static void twoNumbers() {
        gives("bytes", 33, ADD, 16, 17, Story.G2, Story.END);
        gives("byte and variable", 316, ADD + 32, 16, 17, Story.G2, Story.END);
        gives("variable and byte", 1017, ADD + 64, 16, 17, Story.G2, Story.END);
        gives("variables", 1300, ADD + 96, 16, 17, Story.G2, Story.END);
    }

    private static void oneNumber() {
        gives("a word", 65535 - 0x1011, 143, 16, 17, Story.G2, Story.END);
        gives("a byte", 65535 - 16, 159, 16, Story.G2, Story.END);
        gives("a variable", 65535 - 1000, 175, 16, Story.G2, Story.END);
    }

    private static void manyNumbers() {
        gives("word and word", 0x1011 + 0x0102, 192 + ADD, Story.types("ww"), 16, 17, 1, 2, Story.G2, Story.END);
        gives("byte and variable", 316, 192 + ADD, Story.types("bv"), 16, 17, Story.G2, Story.END);
        gives("variable and word", 1256, 192 + ADD, Story.types("vw"), 16, 1, 0, Story.G2, Story.END);
        gives("too many are of no matter", 33, 192 + ADD, Story.types("bbwb"), 16, 17, 1, 2, 3, Story.G2, Story.END);
        gives("behind one that is not there there is none", 33, 192 + ADD, 0x5D, 16, 17, Story.G2, Story.END);
        gives("four of them", 33, 192 + ADD, Story.types("bbbb"), 16, 17, 1, 2, Story.G2, Story.END);
        Story many = Story.of(225, Story.types("bbbb"), 200, 1, 77, 9, Story.END);
        Check.same("too many for three", many.machine.run(2), 5);
        Check.same("written", many.wordAt(202), 77);
    }

    private static void numbersAreReadFirst() {
        StoryMachine unknown = Story.of(232, 127, 5, 32 + 64 + 31, 0, 0).machine;
        Check.same("an empty stack before an operation that is not there", unknown.run(2), 2);
        Check.same("the first one went", unknown.stack(-1), 0);
        StoryMachine one = Story.of(232, 127, 5, 168, 0).machine;
        Check.same("an operation that is not there", one.run(2), 1);
        Check.same("its number went", one.stack(-1), 0);
        StoryMachine few = Story.of(232, 127, 5, 192 + ADD, Story.types("v"), 0, Story.G0).machine;
        Check.same("too few numbers", few.run(2), 1);
        Check.same("the one went", few.stack(-1), 0);
        StoryMachine extra = Story.of(192 + ADD, Story.types("bbv"), 1, 2, 0, Story.G0).machine;
        Check.same("one too many is read too", extra.run(1), 2);
        StoryMachine bad = Story.of(32 + 64 + ADD, 48, 0, Story.G0).machine;
        Check.same("the first one is bad", bad.run(1), 1);
        StoryMachine empty = Story.of(32 + 64 + ADD, 0, 48, Story.G0).machine;
        Check.same("the first one is empty", empty.run(1), 2);
    }

    private static void operationsThatAreNotThere() {
        for (int operation : new int[] {0, 25, 26, 27, 28, 29, 30, 31}) {
            int[] behind = {1, 1, Story.G0, 64 + 2, Story.END};
            Story two = new Story().bytes(Story.CODE + 1, behind).begin(operation);
            Check.same("SECOND " + operation, two.machine.run(1), 1);
            Story typed = new Story().bytes(Story.CODE + 2, behind).begin(192 + operation, 95);
            Check.same("SECOND " + operation, typed.machine.run(1), 1);
        }
        Check.same("FIRST 8", Story.of(136, 0, 1, Story.G0).machine.run(1), 1);
        for (int operation : new int[] {7, 12, 13, 14, 15}) {
            Check.same("NONE " + operation, Story.of(176 + operation, 195, 195).machine.run(1), 1);
            Check.same("NONE " + operation, Story.of(176 + operation, Story.types("v"), 0).machine.run(1), 1);
        }
        for (int operation = 10; operation < 32; operation++) {
            Check.same("MANY " + operation, Story.of(224 + operation, 85, 1, 1, 1, 1, 16).machine.run(1), 1);
        }
    }

    private static void tooFewNumbers() {
        for (int operation = 1; operation <= 24; operation++) {
            Check.same("SECOND, none, " + operation, Story.of(192 + operation, 255, Story.G0).machine.run(1), 1);
            Check.same("SECOND, one, " + operation, Story.of(192 + operation, 127, 1, Story.G0).machine.run(1), 1);
        }
        int[] needed = {1, 3, 3, 3, 2, 1, 1, 1, 1, 1};
        int[] types = {255, 127, 95};
        for (int operation = 0; operation < needed.length; operation++) {
            Story story = Story.of(224 + operation, types[needed[operation] - 1], 16, 16, 16).line("a");
            Check.same("MANY " + operation, story.machine.run(1), 1);
        }
    }

    private static void otherBytesAreReadBeforeItIsDone() {
        Story story = new Story().word(4, 509).bytes(509, 23, 1, 0);
        story.machine.begin();
        Check.same("division by 0, but it gives to nowhere", story.machine.run(1), 1);
        Check.same("division by 0, and it gives to a bad one", Story.of(23, 1, 0, 99).machine.run(1), 3);
        Story rises = new Story().word(4, 509).bytes(509, 5, Story.G0, 0);
        rises.machine.begin();
        Check.same("a branch that is not there", rises.machine.run(1), 1);
        Check.same("nothing rose", rises.global(Story.G0), 0);
        StoryMachine call = Story.of(224, 63, 0, Story.ROUTINE / 2, 99).bytes(Story.ROUTINE, 0, Story.RETURN_0).machine;
        Check.same("a call is done before it gives to a bad one", call.run(1), 0);
        Check.same("then it is bad", call.run(1), 1);
        Check.same("the routine was left", call.routines(), 0);
        Check.same("place", call.place(), Story.ROUTINE + 1);
    }

    private static void to(String what, int due, int... code) {
        Story story = Story.of(code);
        Check.same(what + ", run", story.machine.run(1), 0);
        Check.same(what, story.machine.place(), due);
    }

    private static void branches() {
        int behind = Story.CODE + 3;
        to("true, by true", behind + 18, 144, 0, 128 + 64 + 20);
        to("false, by true", behind, 144, 1, 128 + 64 + 20);
        to("true, by false", behind, 144, 0, 64 + 20);
        to("false, by false", behind + 18, 144, 1, 64 + 20);
        to("2 is behind", behind, 144, 0, 192 + 2);
        to("63", behind + 61, 144, 0, 192 + 63);
        to("14 bits", behind + 1 + 300 - 2, 144, 0, 128 + 1, 44);
        to("14 bits, false", behind + 1, 144, 1, 128 + 1, 44);
        to("14 bits, by false", behind + 1 + 300 - 2, 144, 1, 1, 44);
        to("-1", behind + 1 - 3, 144, 0, 128 + 63, 255);
        to("8191", behind + 1 + 8191 - 2, 144, 0, 128 + 31, 255);
        to("-8192", behind + 1 - 8192 - 2, 144, 0, 128 + 32, 0);
        to("14 bits, 2", behind + 1, 144, 0, 128, 2);
        to("after what it gives", Story.CODE + 4 + 8, 146, 1, Story.G0, 64 + 10);
    }

    private static void branchesThatReturn() {
        int[][] branches = {{192, 0}, {193, 1}, {128, 0, 0}, {128, 1, 1}};
        for (int[] branch : branches) {
            Story story = new Story().bytes(Story.ROUTINE, 0, 144, 0, branch[0], branch[1]);
            story.begin(224, 63, 0, Story.ROUTINE / 2, Story.G0, Story.END).word(Story.GLOBALS, 99);
            Check.same("returns", story.machine.run(3), 5);
            Check.same("value", story.global(Story.G0), branch[branch.length - 1]);
            Check.same("the story itself", Story.of(144, 0, branch[0], branch[1]).machine.run(1), 1);
        }
        Story stays = new Story().bytes(Story.ROUTINE, 0, 144, 1, 192, Story.NOTHING);
        stays.begin(224, 63, 0, Story.ROUTINE / 2, Story.G0, Story.END);
        Check.same("does not branch", stays.machine.run(3), 0);
        Check.same("still there", stays.machine.routines(), 1);
    }
}
