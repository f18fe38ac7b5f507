import java.util.function.Consumer;
import java.util.function.IntFunction;

/** Terms, OBJECTS: both sides of each edge, and what has changed. */
public final class ObjectEdgeTest extends Edge {
    private static final int OBJECTS = Story.OBJECTS;
    private static final int PARENT = 4;
    private static final int SIBLING = 5;
    private static final int CHILD = 6;
    private static final int NAME = 7;

    public static void main(String[] args) {
        object0AndAbove20AreBad();
        anyNumberMayBeAskedForAsTheParent();
        attributesAreFromTheHighestBitOn();
        attributesAbove31AreBad();
        objectsThatAreNotAllThere();
        attributesThatCannotBeWritten();
        noneIsNoSibling();
        noneIsNoChild();
        noneIsNoParent();
        aNameOfNoWordsIsNothing();
        namesThatAreNotAllThere();
        Check.end();
    }

    private static int place(int object) {
        return OBJECTS + 14 + 9 * (object - 1);
    }

    /** Each object has an empty name and the property 5 (one byte, 7) alone; none has relatives. */
    private static Story objects() {
        Story story = new Story().bytes(FREE, 0, 5, 7, 0);
        for (int object = 1; object <= 20; object++) {
            story.word(place(object) + NAME, FREE);
        }
        return story;
    }

    private static void objectsOf(String what, IntFunction<int[]> code, IntFunction<Consumer<Answers>> change) {
        for (int object : new int[] {1, 20}) {
            done(what + " " + object, code.apply(object), ObjectEdgeTest::objects, change.apply(object));
        }
        for (int object : new int[] {0, 21, 255, 256 + 1, 65535}) {
            bad(what + " " + object, code.apply(object), ObjectEdgeTest::objects);
        }
    }

    /** "Object 0, and above 20, is bad.": in each operation that has an object */
    private static void object0AndAbove20AreBad() {
        objectsOf("parent asked", x -> second(6, "ww", x, 7, BY_TRUE), x -> NOTHING);
        objectsOf("attribute asked", x -> second(10, "ww", x, 3, BY_TRUE), x -> NOTHING);
        objectsOf("attribute set", x -> second(11, "ww", x, 3), x -> due -> due.bytes(place(x), 16));
        objectsOf("attribute taken", x -> second(12, "ww", x, 3), x -> NOTHING);
        objectsOf("put", x -> second(14, "ww", x, 7), x -> due -> {
            due.bytes(place(x) + PARENT, 7).bytes(place(7) + CHILD, x);
        });
        objectsOf("put into", y -> second(14, "ww", 7, y), y -> due -> {
            due.bytes(place(7) + PARENT, y).bytes(place(y) + CHILD, 7);
        });
        objectsOf("property", x -> second(17, "ww", x, 5, G0), x -> due -> due.global(G0, 7));
        objectsOf("property's place", x -> second(18, "ww", x, 5, G0), x -> due -> due.global(G0, FREE + 2));
        objectsOf("property behind", x -> second(19, "ww", x, 0, G0), x -> due -> due.global(G0, 5));
        objectsOf("sibling", x -> first(1, x, G0, BY_TRUE), x -> NOTHING);
        objectsOf("child", x -> first(2, x, G0, BY_TRUE), x -> NOTHING);
        objectsOf("parent", x -> first(3, x, G0), x -> NOTHING);
        objectsOf("taken", x -> first(9, x), x -> NOTHING);
        objectsOf("name", x -> first(10, x), x -> NOTHING);
        objectsOf("property set", x -> many(3, "wbb", x, 5, 9), x -> due -> due.bytes(FREE + 2, 9));
    }

    /** "6 object x has the parent y?": y is compared alone, 0 is none */
    private static void anyNumberMayBeAskedForAsTheParent() {
        asks("0, it has none", true, second(6, "ww", 2, 0, BY_TRUE), ObjectEdgeTest::objects);
        asks("0, it has one", false, second(6, "ww", 2, 0, BY_TRUE), () -> objects().bytes(place(2) + PARENT, 1));
        asks("20", true, second(6, "ww", 2, 20, BY_TRUE), () -> objects().bytes(place(2) + PARENT, 20));
        asks("21", false, second(6, "ww", 2, 21, BY_TRUE), () -> objects().bytes(place(2) + PARENT, 20));
        asks("256 is not 0", false, second(6, "ww", 2, 256, BY_TRUE), ObjectEdgeTest::objects);
        asks("65535 is not 255", false, second(6, "ww", 2, 65535, BY_TRUE), () -> objects().bytes(place(2) + PARENT, 255));
    }

    /** "four bytes of ATTRIBUTES 0 to 31 (0 the highest bit of the first)" */
    private static void attributesAreFromTheHighestBitOn() {
        for (int attribute = 0; attribute <= 31; attribute++) {
            int y = attribute;
            int at = place(20) + y / 8;
            int bit = 128 >> y % 8;
            done("set " + y, second(11, "ww", 20, y), ObjectEdgeTest::objects, due -> due.bytes(at, bit));
            done("taken " + y, second(12, "ww", 20, y), () -> objects().bytes(place(20), 255, 255, 255, 255),
                    due -> due.bytes(at, 255 - bit));
            asks("has " + y, true, second(10, "ww", 20, y, BY_TRUE), () -> objects().bytes(at, bit));
            asks("has not " + y, false, second(10, "ww", 20, y, BY_TRUE),
                    () -> objects().bytes(place(20), 255, 255, 255, 255).bytes(at, 255 - bit));
        }
        done("set again", second(11, "ww", 1, 0), () -> objects().bytes(place(1), 128), NOTHING);
        done("taken again", second(12, "ww", 1, 0), ObjectEdgeTest::objects, NOTHING);
    }

    /** "(above 31: bad)" */
    private static void attributesAbove31AreBad() {
        for (int operation = 10; operation <= 12; operation++) {
            for (int attribute : new int[] {32, 33, 63, 255, 256, 65535}) {
                int[] code = second(operation, "ww", 20, attribute, BY_TRUE);
                bad(operation + " with attribute " + attribute, code, ObjectEdgeTest::objects);
            }
        }
    }

    /** "To read a byte or word that is not all there .. is BAD": an object's */
    private static void objectsThatAreNotAllThere() {
        int last = 512 - 14 - 9;
        done("all there, its sibling", first(1, 1, G0, 64 + 2), () -> new Story().word(8, last), NOTHING);
        done("all there, its name", first(10, 1), () -> new Story().word(8, last), NOTHING);
        bad("the second byte of its name's place is not there", first(10, 1), () -> new Story().word(8, last + 1));
        bad("nor its properties' place", second(18, "ww", 1, 1, G0), () -> new Story().word(8, last + 1));
        done("its child is there", first(2, 1, G0, 64 + 2), () -> new Story().word(8, last + 2), NOTHING);
        bad("its child is not there", first(2, 1, G0, 64 + 2), () -> new Story().word(8, last + 3));
        done("its sibling is there", first(1, 1, G0, 64 + 2), () -> new Story().word(8, last + 3), NOTHING);
        bad("its sibling is not there", first(1, 1, G0, 64 + 2), () -> new Story().word(8, last + 4));
        done("its parent is there", first(3, 1, G0), () -> new Story().word(8, last + 4), NOTHING);
        bad("its parent is not there", first(3, 1, G0), () -> new Story().word(8, last + 5));
        asks("its attribute 31 is there", false, second(10, "ww", 1, 31, BY_TRUE), () -> new Story().word(8, last + 5));
        bad("its attribute 24 is not there", second(10, "ww", 1, 24, BY_TRUE), () -> new Story().word(8, last + 6));
        asks("its attribute 23 is there", false, second(10, "ww", 1, 23, BY_TRUE), () -> new Story().word(8, last + 6));
        done("object 1 is there", first(3, 1, G0), () -> new Story().word(8, last), NOTHING);
        bad("object 2 is not there", first(3, 2, G0), () -> new Story().word(8, last));
        bad("not taken modulo 65536", first(3, 20, G0), () -> new Story().word(8, 65536 - 100));
    }

    /** "bytes from there on, and those below 16, cannot be written by the story": an attribute's */
    private static void attributesThatCannotBeWritten() {
        for (int operation : new int[] {11, 12}) {
            int due = operation == 11 ? 255 : 254;
            int[] code = second(operation, "ww", 1, 31);
            int at = place(1) + 3;
            int before = operation == 11 ? 254 : 255;
            done(operation + " below the base", code, () -> objects().bytes(at, before).word(12, at + 1),
                    answers -> answers.bytes(at, due));
            bad(operation + " at the base", code, () -> objects().bytes(at, before).word(12, at));
            bad(operation + " at 15", second(operation, "ww", 1, 15), () -> new Story().word(8, 0).bytes(15, before));
            done(operation + " at 16", second(operation, "ww", 1, 23),
                    () -> new Story().word(8, 0).word(10, 100).bytes(16, before), answers -> answers.bytes(16, due));
            done(operation + " at 17", code, () -> new Story().word(8, 0).bytes(17, before).word(10, 100),
                    answers -> answers.bytes(17, due));
        }
    }

    /** "1 g its sibling; is there one?" */
    private static void noneIsNoSibling() {
        done("none", first(1, 2, G0, BY_TRUE), () -> objects().word(GLOBALS, 9), due -> due.global(G0, 0));
        done("one", first(1, 2, G0, BY_TRUE), () -> objects().bytes(place(2) + SIBLING, 1),
                due -> due.global(G0, 1).place += BRANCHED);
        done("none, by false", first(1, 2, G0, 64 + 20), ObjectEdgeTest::objects, due -> due.place += BRANCHED);
        done("one, by false", first(1, 2, G0, 64 + 20), () -> objects().bytes(place(2) + SIBLING, 255),
                due -> due.global(G0, 255));
        bad("it cannot be given", first(1, 2, 48, BY_TRUE), () -> objects().bytes(place(2) + SIBLING, 1));
    }

    /** "2 g its child?" */
    private static void noneIsNoChild() {
        done("none", first(2, 2, G0, BY_TRUE), () -> objects().word(GLOBALS, 9), due -> due.global(G0, 0));
        done("one", first(2, 2, G0, BY_TRUE), () -> objects().bytes(place(2) + CHILD, 1),
                due -> due.global(G0, 1).place += BRANCHED);
        trouble("it is given before it returns", BAD, first(2, 2, G0, 192), () -> objects().bytes(place(2) + CHILD, 1),
                due -> due.global(G0, 1));
    }

    /** "3 g its parent", "(0 for none)" */
    private static void noneIsNoParent() {
        done("none", first(3, 2, G0), () -> objects().word(GLOBALS, 9), due -> due.global(G0, 0));
        done("1", first(3, 2, G0), () -> objects().bytes(place(2) + PARENT, 1), due -> due.global(G0, 1));
        done("255, though it is no object", first(3, 2, G0), () -> objects().bytes(place(2) + PARENT, 255),
                due -> due.global(G0, 255));
    }

    /** "its name is put out (no words: nothing)" */
    private static void aNameOfNoWordsIsNothing() {
        int[] text = Story.text(13, 14);
        done("no words", first(10, 2), () -> objects().bytes(FREE, 0).bytes(FREE + 1, text), NOTHING);
        done("one word", first(10, 2), () -> objects().bytes(FREE, 1).bytes(FREE + 1, text), due -> due.puts("hi"));
        done("two words", first(10, 2), () -> objects().bytes(FREE, 2).bytes(FREE + 1, Story.text(6, 7, 8, 9)),
                due -> due.puts("abcd"));
        done("no words at the end of the memory", first(10, 2), () -> objects().word(place(2) + NAME, 511), NOTHING);
    }

    private static void namesThatAreNotAllThere() {
        bad("its place is outside of the memory", first(10, 2), () -> objects().word(place(2) + NAME, 512));
        bad("one word behind the memory", first(10, 2), () -> objects().word(place(2) + NAME, 511).bytes(511, 1));
        bad("half a word", first(10, 2), () -> objects().word(place(2) + NAME, 510).bytes(510, 1, 255));
        done("a word at the end", first(10, 2), () -> objects().word(place(2) + NAME, 509).bytes(509, 1)
                .bytes(510, Story.text(6)), due -> due.puts("a"));
        trouble("no last word", BAD, first(10, 2), () -> objects().word(place(2) + NAME, 509).bytes(509, 1)
                .word(510, 6 << 10 | 7 << 5 | 8), due -> due.puts("abc"));
    }
}
