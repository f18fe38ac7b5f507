/** Terms: objects in a tree, their attributes and names. */
public final class ObjectsTest {
    private static final int PARENT = 4;
    private static final int SIBLING = 5;
    private static final int CHILD = 6;

    public static void main(String[] args) {
        relatives();
        attributes();
        taking();
        takingBadly();
        putting();
        whatWasWrittenStays();
        names();
        Check.end();
    }

    private static int place(int object) {
        return Story.OBJECTS + 14 + 9 * (object - 1);
    }

    private static Story object(Story story, int object, int parent, int sibling, int child) {
        return story.bytes(place(object) + PARENT, parent, sibling, child);
    }

    /** 1 has the children 2, 3, 4; 3 has the child 20. */
    private static Story family() {
        Story story = new Story();
        object(story, 1, 0, 0, 2);
        object(story, 2, 1, 3, 0);
        object(story, 3, 1, 4, 20);
        object(story, 4, 1, 0, 0);
        object(story, 20, 3, 0, 0);
        return story;
    }

    private static void due(Story story, int object, int parent, int sibling, int child) {
        Check.same("parent of " + object, story.machine.peek(place(object) + PARENT), parent);
        Check.same("sibling of " + object, story.machine.peek(place(object) + SIBLING), sibling);
        Check.same("child of " + object, story.machine.peek(place(object) + CHILD), child);
    }

    private static void relatives() {
        // Each branches by true over an END to a step that ends by trouble 3.
        int[] divides = {23, 1, 0, 0};
        int[][] rows = {{1, 2, 3, 3}, {1, 4, 0, 5}, {2, 1, 2, 3}, {2, 2, 0, 5}, {2, 3, 20, 3}, {1, 20, 0, 5}};
        for (int[] row : rows) {
            Story story = family().bytes(Story.CODE + 5, divides).begin(144 + row[0], row[1], Story.G0, 195, Story.END);
            Check.same("branch of " + row[0] + " for " + row[1], story.machine.run(2), row[3]);
            Check.same("given by " + row[0] + " for " + row[1], story.global(Story.G0), row[2]);
        }
        int[][] parents = {{1, 0}, {4, 1}, {20, 3}};
        for (int[] row : parents) {
            Story story = family().begin(147, row[0], Story.G0, Story.END);
            Check.same("parent", story.machine.run(2), 5);
            Check.same("parent of " + row[0], story.global(Story.G0), row[1]);
        }
        for (int object : new int[] {0, 21, 255}) {
            Check.same("sibling of " + object, family().begin(145, object, Story.G0, 195).machine.run(1), 1);
            Check.same("child of " + object, family().begin(146, object, Story.G0, 195).machine.run(1), 1);
            Check.same("parent of " + object, family().begin(147, object, Story.G0).machine.run(1), 1);
            Check.same("asks for the parent of " + object, family().begin(6, object, 1, 195).machine.run(1), 1);
        }
        Check.same("65535", family().begin(131, 255, 255, Story.G0).machine.run(1), 1);
        Check.same("an object that is not all there", family().word(8, 490).begin(147, 1, Story.G0).machine.run(1), 0);
        Check.same("its parent is outside", family().word(8, 494).begin(147, 1, Story.G0).machine.run(1), 1);
        int[][] asks = {{2, 1, 1}, {2, 3, 0}, {1, 0, 1}, {20, 3, 1}, {1, 1, 0}};
        for (int[] row : asks) {
            Story story = family().begin(6, row[0], row[1], 195, Story.END, 13, Story.G0, 1, Story.END);
            Check.same("parent of " + row[0] + " is " + row[1], story.asked(), row[2]);
        }
    }

    private static void attributes() {
        for (int attribute : new int[] {0, 7, 8, 9, 30, 31}) {
            Story story = new Story().begin(11, 2, attribute, 10, 2, attribute, 195, Story.END,
                    13, Story.G0, 1, 12, 2, attribute, Story.END);
            story.bytes(place(2), 0x11, 0x11, 0x11, 0x10);
            Check.same("run", story.machine.run(2), 0);
            int due = new int[] {0x11, 0x11, 0x11, 0x10}[attribute / 8] | 128 >> attribute % 8;
            Check.same("set " + attribute, story.machine.peek(place(2) + attribute / 8), due);
            Check.same("run", story.machine.run(2), 0);
            Check.same("has " + attribute, story.global(Story.G0), 1);
            Check.same("end", story.machine.run(1), 5);
            Check.same("not any more " + attribute, story.machine.peek(place(2) + attribute / 8),
                    due & ~(128 >> attribute % 8));
        }
        Story other = new Story().bytes(place(1), 255, 255, 255, 254).begin(10, 1, 31, 195, Story.END,
                13, Story.G0, 1, Story.END);
        Check.same("has not", other.asked(), 0);
        Story first = new Story().bytes(place(1), 127, 255, 255, 255).begin(10, 1, 0, 195, Story.END,
                13, Story.G0, 1, Story.END);
        Check.same("has not the first", first.asked(), 0);
        for (int operation = 10; operation <= 12; operation++) {
            Check.same("32", Story.of(operation, 1, 32, 195).machine.run(1), 1);
            Check.same("31", Story.of(operation, 1, 31, 64 + 2).machine.run(1), 0);
            Check.same("object 0", Story.of(operation, 0, 1, 195).machine.run(1), 1);
            Check.same("object 21", Story.of(operation, 21, 1, 195).machine.run(1), 1);
            Check.same("65535", Story.of(192 + operation, Story.types("bw"), 1, 255, 255, 195).machine.run(1), 1);
        }
        Check.same("behind the base", Story.of(11, 1, 0).word(12, place(1)).machine.run(1), 1);
        Check.same("below the base", Story.of(11, 1, 0).word(12, place(1) + 1).machine.run(1), 0);
    }

    private static void taking() {
        Story first = family().begin(153, 2, Story.END);
        Check.same("the first child", first.machine.run(2), 5);
        due(first, 1, 0, 0, 3);
        due(first, 2, 0, 0, 0);
        due(first, 3, 1, 4, 20);
        Story middle = family().begin(153, 3, Story.END);
        Check.same("one between", middle.machine.run(2), 5);
        due(middle, 1, 0, 0, 2);
        due(middle, 2, 1, 4, 0);
        due(middle, 3, 0, 0, 20);
        Story last = family().begin(153, 4, Story.END);
        Check.same("the last one", last.machine.run(2), 5);
        due(last, 3, 1, 0, 20);
        due(last, 4, 0, 0, 0);
        Story only = family().begin(153, 20, Story.END);
        Check.same("an only child", only.machine.run(2), 5);
        due(only, 3, 1, 4, 0);
        due(only, 20, 0, 0, 0);
        Story none = object(family(), 5, 0, 9, 8).begin(153, 5, Story.END);
        Check.same("without a parent", none.machine.run(2), 5);
        due(none, 5, 0, 9, 8);
        Story many = new Story();
        for (int i = 1; i <= 20; i++) {
            object(many, i, 1, i == 20 ? 0 : i + 1, i == 1 ? 1 : 0);
        }
        many.begin(153, 20, Story.END);
        Check.same("the last one of twenty", many.machine.run(2), 5);
        due(many, 19, 1, 0, 0);
        due(many, 20, 0, 0, 0);
    }

    private static void takingBadly() {
        Story lost = object(family(), 5, 1, 0, 0).begin(153, 5);
        Check.same("not among the children", lost.machine.run(1), 1);
        due(lost, 5, 1, 0, 0);
        Story childless = object(family(), 5, 4, 0, 0).begin(153, 5);
        Check.same("its parent has none", childless.machine.run(1), 1);
        Story ring = object(object(family(), 5, 1, 0, 0), 4, 1, 2, 0).begin(153, 5);
        Check.same("children in a ring", ring.machine.run(1), 1);
        Check.same("a parent above 20", object(family(), 5, 21, 0, 0).begin(153, 5).machine.run(1), 1);
        Check.same("a sibling above 20", object(object(family(), 5, 1, 0, 0), 4, 1, 21, 0)
                .begin(153, 5).machine.run(1), 1);
        Check.same("object 0", family().begin(153, 0).machine.run(1), 1);
        Check.same("object 21", family().begin(153, 21).machine.run(1), 1);
    }

    private static void putting() {
        Story story = family().begin(14, 20, 1, Story.END);
        Check.same("run", story.machine.run(2), 5);
        due(story, 20, 1, 2, 0);
        due(story, 1, 0, 0, 20);
        due(story, 3, 1, 4, 0);
        Story again = family().begin(14, 3, 1, Story.END);
        Check.same("into the parent that it has", again.machine.run(2), 5);
        due(again, 1, 0, 0, 3);
        due(again, 3, 1, 2, 20);
        due(again, 2, 1, 4, 0);
        Story self = family().begin(14, 20, 20, Story.END);
        Check.same("into itself", self.machine.run(2), 5);
        due(self, 20, 20, 0, 20);
        due(self, 3, 1, 4, 0);
        int[][] bad = {{2, 0}, {2, 21}, {0, 1}, {21, 1}};
        for (int[] row : bad) {
            Story refused = family().begin(14, row[0], row[1]);
            Check.same("bad", refused.machine.run(1), 1);
            due(refused, 1, 0, 0, 2);
            due(refused, 2, 1, 3, 0);
        }
    }

    private static void whatWasWrittenStays() {
        Story taken = family().word(12, place(3) + PARENT).begin(153, 3);
        Check.same("its parent cannot be written", taken.machine.run(1), 1);
        due(taken, 2, 1, 4, 0);
        due(taken, 3, 1, 4, 20);
        Story half = family().word(12, place(3) + SIBLING).begin(153, 3);
        Check.same("its sibling cannot be written", half.machine.run(1), 1);
        due(half, 3, 0, 4, 20);
        Story put = object(family(), 5, 0, 0, 0).word(12, place(6)).begin(14, 5, 20);
        Check.same("the new parent cannot be written", put.machine.run(1), 1);
        due(put, 5, 20, 0, 0);
        due(put, 20, 3, 0, 0);
        Story lost = object(family(), 20, 21, 0, 0).begin(14, 20, 1);
        Check.same("it cannot be taken", lost.machine.run(1), 1);
        due(lost, 20, 21, 0, 0);
        due(lost, 1, 0, 0, 2);
    }

    private static void names() {
        Story story = new Story().word(place(1) + 7, Story.FREE).bytes(Story.FREE, 1);
        story.bytes(Story.FREE + 1, Story.text(13, 14)).begin(154, 1, Story.END);
        Check.same("run", story.machine.run(2), 5);
        Check.isTrue("hi", story.text().equals("hi"));
        Story none = new Story().word(place(20) + 7, Story.FREE).begin(154, 20, Story.END);
        Check.same("no words", none.machine.run(2), 5);
        Check.same("nothing", none.machine.output(-1), 0);
        Check.same("object 0", Story.of(154, 0).machine.run(1), 1);
        Check.same("object 21", Story.of(154, 21).machine.run(1), 1);
        Check.same("a place outside", new Story().word(place(1) + 7, 512).begin(154, 1).machine.run(1), 1);
    }
}
