/** Terms: memory, its head, and what is BAD to read or write. */
public final class MemoryTest {
    private static final int WORD = 225;
    private static final int BYTE = 226;

    public static void main(String[] args) {
        wordsAreReadFromAllTheMemory();
        writesStayInsideTheirBounds();
        aWordIsWrittenWholeOrNot();
        placesAreNotTakenModulo();
        theHeadIsReadWhenItIsNeeded();
        instructionsEndAtTheEnd();
        Check.end();
    }

    private static Story storing(int operation, int place, int index, int value) {
        return new Story().bytes(Story.CODE, operation, Story.types("www"), Story.high(place), Story.low(place),
                Story.high(index), Story.low(index), Story.high(value), Story.low(value), Story.END);
    }

    private static int run(Story story) {
        story.machine.begin();
        return story.machine.run(2);
    }

    private static void wordsAreReadFromAllTheMemory() {
        Story first = Story.giving(15, 4, 0);
        Check.same("a word of the head", first.machine.run(2), 5);
        Check.same("it", first.global(Story.G0), Story.CODE);
        Story lowest = Story.giving(15, 0, 0).word(0, 0x8142);
        Check.same("the first word", lowest.machine.run(2), 5);
        Check.same("it", lowest.global(Story.G0), 0x8142);
        Story lowestByte = Story.giving(16, 0, 0).bytes(0, 200);
        Check.same("the first byte", lowestByte.machine.run(2), 5);
        Check.same("it", lowestByte.global(Story.G0), 200);
        Story last = Story.giving(15, 508, 1).word(510, 0x8142);
        Check.same("the last word", last.machine.run(2), 5);
        Check.same("it", last.global(Story.G0), 0x8142);
        Check.same("a word that is half there", Story.giving(15, 511, 0).machine.run(2), 1);
        Story lastByte = Story.giving(16, 500, 11).bytes(511, 200);
        Check.same("the last byte", lastByte.machine.run(2), 5);
        Check.same("it", lastByte.global(Story.G0), 200);
        Check.same("no byte", Story.giving(16, 500, 12).machine.run(2), 1);
    }

    private static void writesStayInsideTheirBounds() {
        Check.same("below 16", run(storing(BYTE, 15, 0, 1)), 1);
        Check.same("at 16", run(storing(BYTE, 16, 0, 1)), 5);
        Check.same("the last byte below the base", run(storing(BYTE, 399, 0, 1).word(12, 400)), 5);
        Check.same("the base", run(storing(BYTE, 400, 0, 1).word(12, 400)), 1);
        Check.same("the last byte", run(storing(BYTE, 511, 0, 1)), 5);
        Check.same("the last byte, a base above", run(storing(BYTE, 511, 0, 1).word(12, 65535)), 5);
        Check.same("behind the memory, a base above", run(storing(BYTE, 512, 0, 1).word(12, 65535)), 1);
        Check.same("no byte can be written", run(storing(BYTE, 16, 0, 1).word(12, 16)), 1);
        Check.same("one can be", run(storing(BYTE, 16, 0, 1).word(12, 17)), 5);
        Check.same("base 0", run(storing(BYTE, 100, 0, 1).word(12, 0)), 1);
        Check.same("a global from the base on", run(new Story().bytes(Story.CODE, 20, 1, 2, Story.G0)
                .word(12, Story.GLOBALS)), 1);
        Check.same("a global below 16", run(new Story().bytes(Story.CODE, 20, 1, 2, Story.G0).word(10, 14)), 1);
    }

    private static void aWordIsWrittenWholeOrNot() {
        Story low = storing(WORD, 15, 0, 0x1234);
        Check.same("half in the head", run(low), 1);
        Check.same("its second byte stays", low.machine.peek(16), 0);
        Story high = storing(WORD, 399, 0, 0x1234).word(12, 400);
        Check.same("half behind the base", run(high), 1);
        Check.same("its first byte stays", high.machine.peek(399), 0);
        Story fits = storing(WORD, 398, 0, 0x1234).word(12, 400);
        Check.same("all below the base", run(fits), 5);
        Check.same("high byte", fits.machine.peek(398), 0x12);
        Check.same("low byte", fits.machine.peek(399), 0x34);
        Check.same("the last word", run(storing(WORD, 510, 0, 1)), 5);
        Check.same("half behind the memory", run(storing(WORD, 511, 0, 1).word(12, 600)), 1);
        Check.same("the first word", run(storing(WORD, 16, 0, 1)), 5);
    }

    private static void placesAreNotTakenModulo() {
        Check.same("x + y above 65535", Story.giving(16, 65535, 101).machine.run(2), 1);
        Check.same("x + 2 y above 65535", Story.giving(15, 100, 32768).machine.run(2), 1);
        Check.same("y has no sign", Story.giving(16, 101, 65535).machine.run(2), 1);
        Check.same("writing, x + y", run(storing(BYTE, 65535, 101, 7)), 1);
        Check.same("writing, x + 2 y", run(storing(WORD, 100, 32768, 7)), 1);
        Check.same("text at 2 x", Story.of(141, 128, 100).machine.run(1), 1);
        Check.same("a call at 2 x", Story.of(224, 63, 128, 100, Story.G0).machine.run(1), 1);
    }

    private static void theHeadIsReadWhenItIsNeeded() {
        Story story = Story.of(20, 1, 2, Story.G0, 20, 3, 4, Story.G0, Story.END);
        story.machine.run(1);
        story.word(10, 400);
        story.machine.run(1);
        Check.same("first", story.wordAt(Story.GLOBALS), 3);
        Check.same("second", story.wordAt(400), 7);
    }

    private static void instructionsEndAtTheEnd() {
        int[][] cut = {
            {}, {20}, {20, 1}, {20, 1, 2}, {1, 1, 1}, {1, 1, 1, 0}, {128}, {128, 0}, {128, 0, 0}, {144}, {160},
            {225}, {225, 0}, {225, 0, 0}, {225, 21, 0, 0}, {Story.PUT_TEXT}, {Story.PUT_TEXT, 0}, {Story.SAVE},
            {Story.RESTORE}, {130, 0, 1, Story.G0}};
        for (int[] code : cut) {
            Story story = new Story().word(4, 511 - code.length).bytes(511 - code.length, Story.NOTHING);
            story.bytes(512 - code.length, code);
            story.machine.begin();
            Check.same("cut off after " + code.length + " bytes", story.machine.run(2), 1);
            Check.same("only the first was done", story.machine.steps(), 1);
        }
    }
}
