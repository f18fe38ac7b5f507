/** Terms, TAKEN FROM its parent and put into another: both sides of each edge, and what has changed. */
public final class TreeEdgeTest extends Edge {
    private static final int PARENT = 4;
    private static final int SIBLING = 5;
    private static final int CHILD = 6;

    public static void main(String[] args) {
        withNoParentNothingHappens();
        itsSiblingComesInItsPlace();
        theLastOfTwenty();
        badWhenItIsNotFound();
        badRelatives();
        putIntoAnother();
        xAndYMustBeObjectsBeforeAnythingIsDone();
        whatWasWrittenBeforeStays();
        Check.end();
    }

    private static int place(int object) {
        return Story.OBJECTS + 14 + 9 * (object - 1);
    }

    private static Story object(Story story, int object, int parent, int sibling, int child) {
        return story.bytes(place(object) + PARENT, parent, sibling, child);
    }

    private static Answers object(Answers due, int object, int parent, int sibling, int child) {
        return due.bytes(place(object) + PARENT, parent, sibling, child);
    }

    private static int[] take(int x) {
        return first(9, x);
    }

    private static int[] put(int x, int y) {
        return second(14, "ww", x, y);
    }

    /** 1 has the children 2, 3, 4; 3 has the child 20; 5 has nothing. */
    private static Story family() {
        Story story = new Story();
        object(story, 1, 0, 0, 2);
        object(story, 2, 1, 3, 0);
        object(story, 3, 1, 4, 20);
        object(story, 4, 1, 0, 0);
        return object(story, 20, 3, 0, 0);
    }

    /** "(with none, nothing happens)" */
    private static void withNoParentNothingHappens() {
        done("it has nothing", take(5), TreeEdgeTest::family, NOTHING);
        done("it has a sibling and a child", take(5), () -> object(family(), 5, 0, 9, 8), NOTHING);
        done("it has children", take(1), TreeEdgeTest::family, NOTHING);
        done("nothing can be written", take(5), () -> family().word(12, 0), NOTHING);
    }

    /**
     * "its sibling comes in its place, as its parent's child or as the sibling of the one before ..; then its parent
     * becomes 0, its sibling 0"
     */
    private static void itsSiblingComesInItsPlace() {
        done("the first child", take(2), TreeEdgeTest::family, due -> {
            object(object(due, 1, 0, 0, 3), 2, 0, 0, 0);
        });
        done("a middle one, which keeps its child", take(3), TreeEdgeTest::family, due -> {
            object(object(due, 2, 1, 4, 0), 3, 0, 0, 20);
        });
        done("the last one", take(4), TreeEdgeTest::family, due -> object(object(due, 3, 1, 0, 20), 4, 0, 0, 0));
        done("its name is not put out", take(2), () -> family().word(place(2) + 7, FREE).bytes(FREE, 1)
                .bytes(FREE + 1, Story.text(6)), due -> object(object(due, 1, 0, 0, 3), 2, 0, 0, 0));
        done("an only child", take(20), TreeEdgeTest::family, due -> object(object(due, 3, 1, 4, 0), 20, 0, 0, 0));
    }

    /** 1 to 20 are all children of 1. */
    private static Story twenty() {
        Story story = new Story();
        for (int i = 1; i <= 20; i++) {
            object(story, i, 1, i < 20 ? i + 1 : 0, i == 1 ? 1 : 0);
        }
        return story;
    }

    /** "(bad when it is not found among 20)": the twentieth is found */
    private static void theLastOfTwenty() {
        done("the twentieth", take(20), TreeEdgeTest::twenty, due -> object(object(due, 19, 1, 0, 0), 20, 0, 0, 0));
        done("the nineteenth", take(19), TreeEdgeTest::twenty, due -> object(object(due, 18, 1, 20, 0), 19, 0, 0, 0));
        bad("twenty others", take(20), () -> object(twenty(), 19, 1, 1, 0));
    }

    /** "bad when it is not found among 20" */
    private static void badWhenItIsNotFound() {
        bad("its parent has no child", take(5), () -> object(family(), 5, 4, 0, 0));
        bad("its parent has others", take(5), () -> object(family(), 5, 1, 0, 0));
        bad("a ring of one", take(5), () -> object(object(object(family(), 5, 6, 0, 0), 6, 0, 0, 7), 7, 6, 7, 0));
        bad("a ring of three", take(5), () -> object(object(family(), 5, 1, 0, 0), 4, 1, 2, 0));
        bad("its own parent", take(5), () -> object(family(), 5, 5, 0, 0));
        done("its own parent and child", take(5), () -> object(family(), 5, 5, 0, 5), due -> object(due, 5, 0, 0, 0));
        done("in a ring", take(4), () -> object(family(), 4, 1, 2, 0), due -> object(object(due, 3, 1, 2, 20), 4, 0, 0, 0));
    }

    /** "Object 0, and above 20, is bad.": on the way */
    private static void badRelatives() {
        done("the parent is 20", take(5), () -> object(object(family(), 5, 20, 0, 0), 20, 3, 0, 5),
                due -> object(object(due, 5, 0, 0, 0), 20, 3, 0, 0));
        bad("the parent is 21", take(5), () -> object(family(), 5, 21, 0, 0).bytes(place(21) + CHILD, 5));
        bad("the parent is 255", take(5), () -> object(family(), 5, 255, 0, 0));
        bad("the one before is 21", take(5), () -> object(object(family(), 5, 6, 0, 0), 6, 0, 0, 21)
                .bytes(place(21) + SIBLING, 5));
        bad("the one before is 0", take(5), () -> object(object(family(), 5, 6, 0, 0), 6, 0, 0, 0));
        done("its sibling is 21", take(5), () -> object(object(family(), 5, 6, 21, 0), 6, 0, 0, 5),
                due -> object(object(due, 5, 0, 0, 0), 6, 0, 0, 21));
    }

    /** "Put into y: its parent becomes y, its sibling y's child, y's child it." */
    private static void putIntoAnother() {
        done("from nowhere to one without a child", put(5, 20), TreeEdgeTest::family, due -> {
            object(object(due, 5, 20, 0, 0), 20, 3, 0, 5);
        });
        done("from nowhere, before others", put(5, 1), TreeEdgeTest::family, due -> {
            object(object(due, 5, 1, 2, 0), 1, 0, 0, 5);
        });
        done("from another parent", put(20, 1), TreeEdgeTest::family, due -> {
            object(object(object(due, 20, 1, 2, 0), 1, 0, 0, 20), 3, 1, 4, 0);
        });
        done("the first child again", put(2, 1), TreeEdgeTest::family, NOTHING);
        done("a later child comes first", put(4, 1), TreeEdgeTest::family, due -> {
            object(object(object(due, 4, 1, 2, 0), 1, 0, 0, 4), 3, 1, 0, 20);
        });
        done("into its own child", put(1, 2), TreeEdgeTest::family, due -> object(object(due, 1, 2, 0, 2), 2, 1, 3, 1));
        done("into itself", put(5, 5), TreeEdgeTest::family, due -> object(due, 5, 5, 0, 5));
        done("a sibling without a parent goes", put(5, 20), () -> object(family(), 5, 0, 9, 8), due -> {
            object(object(due, 5, 20, 0, 8), 20, 3, 0, 5);
        });
    }

    /** "(x and y must be objects before anything is done.)" */
    private static void xAndYMustBeObjectsBeforeAnythingIsDone() {
        for (int y : new int[] {0, 21, 255, 256 + 1, 65535}) {
            bad("into " + y, put(2, y), TreeEdgeTest::family);
            bad(y + " into 1", put(y, 1), TreeEdgeTest::family);
        }
        done("20 into 1", put(20, 1), TreeEdgeTest::family, due -> {
            object(object(object(due, 20, 1, 2, 0), 1, 0, 0, 20), 3, 1, 4, 0);
        });
        done("4 into 20", put(4, 20), TreeEdgeTest::family, due -> {
            object(object(object(due, 4, 20, 0, 0), 20, 3, 0, 4), 3, 1, 0, 20);
        });
    }

    /** Bytes below the base can be written, the others cannot. */
    private static Story family(int base) {
        return family().word(12, base);
    }

    /** "What a step has done before there is trouble stays so (written, ..)" */
    private static void whatWasWrittenBeforeStays() {
        bad("the one before cannot be written", take(4), () -> family(place(3) + SIBLING));
        trouble("its parent cannot be written", BAD, take(4), () -> family(place(4) + PARENT),
                due -> object(due, 3, 1, 0, 20));
        trouble("its sibling cannot be written", BAD, take(4), () -> family(place(4) + SIBLING),
                due -> object(object(due, 3, 1, 0, 20), 4, 0, 0, 0));
        done("all can be written", take(4), () -> family(place(4) + CHILD),
                due -> object(object(due, 3, 1, 0, 20), 4, 0, 0, 0));
        trouble("put: it was taken, and its parent written", BAD, put(4, 20), () -> family(place(5)),
                due -> object(object(due, 3, 1, 0, 20), 4, 20, 0, 0));
        bad("put: its parent cannot be written", put(5, 1), () -> family(place(5) + PARENT));
        trouble("put: its sibling cannot be written", BAD, put(5, 1), () -> family(place(5) + SIBLING),
                due -> object(due, 5, 1, 0, 0));
        trouble("put: the child of y cannot be written", BAD, put(2, 4), () -> family(place(4) + CHILD),
                due -> object(object(due, 1, 0, 0, 3), 2, 4, 0, 0));
        bad("put: it is not found", put(5, 2), () -> object(family(), 5, 1, 0, 0));
    }
}
