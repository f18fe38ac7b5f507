/** Terms: properties of objects and their defaults. */
public final class PropertiesTest {
    private static final int VALUE = 17;
    private static final int PLACE = 18;
    private static final int BEHIND = 19;
    private static final int LIST = Story.FREE + 3;

    public static void main(String[] args) {
        values();
        places();
        numbersBehind();
        lengths();
        setting();
        listsWithoutAnEnd();
        Check.end();
    }

    /** Object 2 has a name of one word and the properties 20 (1 byte), 5 (2), 9 (8), 31 (3). */
    private static Story story() {
        Story story = new Story().word(Story.OBJECTS + 14 + 9 + 7, Story.FREE).bytes(Story.FREE, 1, 148, 165);
        story.bytes(LIST, 20, 200, 32 + 5, 0x81, 0x42, 7 * 32 + 9, 1, 2, 3, 4, 5, 6, 7, 8,
                2 * 32 + 31, 1, 2, 3, 0);
        for (int i = 1; i <= 7; i++) {
            story.word(Story.OBJECTS + 2 * (i - 1), 1000 + i);
        }
        return story;
    }

    private static void due(int operation, int object, int number, int value) {
        Story story = story().begin(operation, object, number, Story.G0, Story.END);
        Check.same("run " + operation + " for " + number, story.machine.run(2), 5);
        Check.same("given by " + operation + " for " + number, story.global(Story.G0), value);
    }

    private static void bad(int operation, int object, int number) {
        Story story = story().begin(operation, object, number, Story.G0, Story.END);
        Check.same("bad " + operation + " of " + object + " for " + number, story.machine.run(2), 1);
    }

    private static void values() {
        due(VALUE, 2, 20, 200);
        due(VALUE, 2, 5, 0x8142);
        due(VALUE, 2, 1, 1001);
        due(VALUE, 2, 7, 1007);
        bad(VALUE, 2, 9);
        bad(VALUE, 2, 31);
        bad(VALUE, 2, 0);
        bad(VALUE, 2, 8);
        bad(VALUE, 2, 32 + 5);
        bad(VALUE, 0, 5);
        bad(VALUE, 21, 5);
    }

    private static void places() {
        due(PLACE, 2, 20, LIST + 1);
        due(PLACE, 2, 5, LIST + 3);
        due(PLACE, 2, 9, LIST + 6);
        due(PLACE, 2, 31, LIST + 15);
        due(PLACE, 2, 1, 0);
        due(PLACE, 2, 255, 0);
        bad(PLACE, 0, 20);
    }

    private static void numbersBehind() {
        due(BEHIND, 2, 0, 20);
        due(BEHIND, 2, 20, 5);
        due(BEHIND, 2, 5, 9);
        due(BEHIND, 2, 9, 31);
        due(BEHIND, 2, 31, 0);
        bad(BEHIND, 2, 1);
        bad(BEHIND, 2, 52);
        Story odd = story().bytes(LIST, 31).begin(BEHIND, 2, 0, Story.G0, Story.END);
        Check.same("the first one is 31", odd.machine.run(2), 5);
        Check.same("31", odd.global(Story.G0), 31);
        Story none = story().bytes(LIST, 0).begin(BEHIND, 2, 0, Story.G0, Story.END);
        Check.same("without properties", none.machine.run(2), 5);
        Check.same("0", none.global(Story.G0), 0);
    }

    private static void lengths() {
        Story full = story().bytes(LIST, 32).begin(148, LIST + 1, Story.G0, Story.END);
        Check.same("number 0 of two bytes", full.machine.run(2), 5);
        Check.same("2", full.global(Story.G0), 2);
        int[][] rows = {{LIST + 1, 1}, {LIST + 3, 2}, {LIST + 6, 8}, {LIST + 15, 3}};
        for (int[] row : rows) {
            Story story = story().begin(148, row[0], Story.G0, Story.END);
            Check.same("run", story.machine.run(2), 5);
            Check.same("length at " + row[0], story.global(Story.G0), row[1]);
        }
        Check.same("no byte before 0", story().begin(148, 0, Story.G0).machine.run(1), 1);
        Check.same("the byte 511", story().begin(132, 2, 0, Story.G0).machine.run(1), 0);
        Check.same("no byte 512", story().begin(132, 2, 1, Story.G0).machine.run(1), 1);
    }

    private static Story set(int object, int number, int value) {
        return story().begin(227, Story.types("bbw"), object, number, Story.high(value), Story.low(value), Story.END);
    }

    private static void setting() {
        Story one = set(2, 20, 0x1234);
        Check.same("run", one.machine.run(2), 5);
        Check.same("its lowest byte", one.machine.peek(LIST + 1), 0x34);
        Check.same("the next property", one.machine.peek(LIST + 2), 37);
        Story two = set(2, 5, 0xFEDC);
        Check.same("run", two.machine.run(2), 5);
        Check.same("a word", two.wordAt(LIST + 3), 0xFEDC);
        Check.same("of three bytes", set(2, 31, 1).machine.run(1), 1);
        Check.same("of eight bytes", set(2, 9, 1).machine.run(1), 1);
        Story few = story().begin(227, Story.types("bb"), 2, 5);
        Check.same("becomes nothing", few.machine.run(1), 1);
        Check.same("it stays", few.wordAt(LIST + 3), 0x8142);
        Check.same("it has none", set(2, 1, 1).machine.run(1), 1);
        Check.same("object 0", set(0, 5, 1).machine.run(1), 1);
        Check.same("object 21", set(21, 5, 1).machine.run(1), 1);
        Story base = set(2, 5, 0xFEDC).word(12, LIST + 4);
        Check.same("behind the base", base.machine.run(1), 1);
        Check.same("nothing was written", base.wordAt(LIST + 3), 0x8142);
    }

    private static void listsWithoutAnEnd() {
        Story story = story().word(Story.OBJECTS + 14 + 9 + 7, 507).bytes(507, 0, 3, 9, 4, 9);
        story.begin(PLACE, 2, 4, Story.G0, PLACE, 2, 5, Story.G0);
        Check.same("found before the end", story.machine.run(1), 0);
        Check.same("it", story.global(Story.G0), 511);
        Check.same("not found", story.machine.run(1), 1);
        Story cut = story().word(Story.OBJECTS + 14 + 9 + 7, 509).bytes(509, 0, 32 + 3, 9);
        cut.begin(PLACE, 2, 3, Story.G0, VALUE, 2, 3, Story.G0);
        Check.same("its place is known", cut.machine.run(1), 0);
        Check.same("its word is not all there", cut.machine.run(1), 1);
    }
}
