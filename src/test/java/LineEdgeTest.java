import java.util.function.Consumer;

/** Promises 5 and 6: both sides of each edge, and which line is read when a call is refused. */
public final class LineEdgeTest extends Edge {
    private static final int TEXT = 400;
    private static final int WORDS = 440;
    private static final long EIGHT = 0x6162636465666768L;

    public static void main(String[] args) {
        oneToEightCharacters();
        otherNumbersAreRefused();
        characters32To126();
        otherCharactersAreRefused();
        atMost24();
        moreThan24AreRefused();
        aWrongArgumentIsToldFirst();
        typingWithoutAStory();
        theNextReadTakesIt();
        whatWasNotReadIsThereNoMore();
        typedAndNotEntered();
        beginForgetsTheLine();
        Check.end();
    }

    private static Story reading() {
        return new Story().bytes(TEXT, 30).begin(join(many(4, "ww", TEXT, WORDS), many(4, "ww", TEXT, WORDS)));
    }

    /** After these calls and an enter, READ takes this line. */
    private static void line(String what, String due, Consumer<StoryMachine> calls) {
        StoryMachine x = reading().machine;
        calls.accept(x);
        x.enter();
        read(what, due, x);
    }

    private static void read(String what, String due, StoryMachine x) {
        Check.same(what + ": run", x.run(1), 0);
        for (int i = 0; i < due.length(); i++) {
            Check.same(what + ": character " + i, x.peek(TEXT + 1 + i), due.charAt(i));
        }
        Check.same(what + ": then a 0", x.peek(TEXT + 1 + due.length()), 0);
    }

    private static void refusedTyping(String what, Class<? extends RuntimeException> due, long bytes, int n) {
        refused(what, due, Story::new, x -> x.type(bytes, n));
        refused(what + ", a line is typed", due, LineEdgeTest::reading, x -> x.type(bytes, n));
        line(what, "xy", x -> {
            x.type('x', 1);
            Check.refused(what, due, () -> x.type(bytes, n));
            x.type('y', 1);
        });
    }

    /** "n characters (1 .. 8; .. as for poke) more on the line": the lowest of bytes, the highest of these first */
    private static void oneToEightCharacters() {
        String all = "abcdefgh";
        for (int n = 1; n <= 8; n++) {
            int number = n;
            line(n + " characters", all.substring(8 - n), x -> x.type(EIGHT, number));
            line(n + " characters more", "z" + all.substring(8 - n), x -> {
                x.type('z', 1);
                x.type(EIGHT, number);
            });
        }
        line("what stands above them is of no matter", "a", x -> x.type(-256L + 'a', 1));
        line("0 above them is of no matter", "ab", x -> x.type(0x6162L, 2));
    }

    /** "IllegalArgumentException: not so": n is not 1 .. 8 */
    private static void otherNumbersAreRefused() {
        for (int n : new int[] {0, 9, -1, 10, 16, 24, 264, Integer.MIN_VALUE, Integer.MAX_VALUE}) {
            refusedTyping("n " + n, IllegalArgumentException.class, EIGHT, n);
        }
    }

    /** "each 32 .. 126" */
    private static void characters32To126() {
        line("32", " ", x -> x.type(32, 1));
        line("33", "!", x -> x.type(33, 1));
        line("125", "}", x -> x.type(125, 1));
        line("126", "~", x -> x.type(126, 1));
        line("32 and 126", " ~ ~ ~ ~", x -> x.type(0x207E207E207E207EL, 8));
    }

    /** "IllegalArgumentException: not so": a character is not 32 .. 126 */
    private static void otherCharactersAreRefused() {
        for (int wrong : new int[] {0, 1, 13, 31, 127, 128, 160, 254, 255}) {
            refusedTyping("character " + wrong, IllegalArgumentException.class, wrong, 1);
            for (int at = 0; at < 8; at++) {
                long bytes = EIGHT & ~(255L << 8 * at) | (long) wrong << 8 * at;
                refusedTyping("character " + wrong + " at " + at, IllegalArgumentException.class, bytes, 8);
            }
        }
    }

    private static void type(StoryMachine x, int characters) {
        for (int i = 0; i < characters; i++) {
            x.type('a', 1);
        }
    }

    /** "IllegalStateException: there would be more than 24": 24 are taken */
    private static void atMost24() {
        line("three times eight", "abcdefghabcdefghabcdefgh", x -> {
            x.type(EIGHT, 8);
            x.type(EIGHT, 8);
            x.type(EIGHT, 8);
        });
        for (int n = 1; n <= 8; n++) {
            int number = n;
            line("24, the last ones by " + n, "aaaaaaaaaaaaaaaaaaaaaaaa".substring(n) + "abcdefgh".substring(8 - n), x -> {
                type(x, 24 - number);
                x.type(EIGHT, number);
            });
        }
    }

    /** "IllegalStateException: there would be more than 24": then none of them is typed */
    private static void moreThan24AreRefused() {
        String as = "aaaaaaaaaaaaaaaaaaaaaaaa";
        for (int n = 1; n <= 8; n++) {
            int number = n;
            line("25 by " + n, as.substring(number - 1), x -> {
                type(x, 25 - number);
                Check.refused("25", IllegalStateException.class, () -> x.type(EIGHT, number));
            });
            line("32 by " + n, as, x -> {
                type(x, 24);
                Check.refused("24 and more", IllegalStateException.class, () -> x.type(EIGHT, number));
            });
        }
        line("there is room for fewer", as.substring(1) + "h", x -> {
            type(x, 23);
            Check.refused("25", IllegalStateException.class, () -> x.type(EIGHT, 2));
            x.type(EIGHT, 1);
            Check.refused("25", IllegalStateException.class, () -> x.type(EIGHT, 1));
        });
        refused("25, nothing else changes", IllegalStateException.class, () -> {
            Story story = reading();
            type(story.machine, 24);
            return story;
        }, x -> x.type('b', 1));
    }

    private static void aWrongArgumentIsToldFirst() {
        line("a full line", "aaaaaaaaaaaaaaaaaaaaaaaa", x -> {
            type(x, 24);
            Check.refused("a wrong character", IllegalArgumentException.class, () -> x.type(31, 1));
            Check.refused("a wrong number", IllegalArgumentException.class, () -> x.type('a', 0));
            Check.refused("a wrong number", IllegalArgumentException.class, () -> x.type('a', 9));
        });
    }

    private static void typingWithoutAStory() {
        StoryMachine x = new StoryMachine();
        type(x, 24);
        Check.refused("25", IllegalStateException.class, () -> x.type('a', 1));
        x.enter();
        Check.allowed("another line", () -> type(x, 24));
        Check.refused("25", IllegalStateException.class, () -> x.type('a', 1));
        Check.same("no story", x.place(), -1);
        refused("31, new", IllegalArgumentException.class, Story::new, y -> y.type(31, 1));
    }

    /** Promise 6: "The line is typed: the next READ takes it." */
    private static void theNextReadTakesIt() {
        StoryMachine x = reading().machine;
        Check.same("no line", x.run(1), 4);
        x.type('a', 1);
        Check.same("typed alone", x.run(1), 4);
        x.enter();
        read("entered", "a", x);
        Check.same("the next one waits", x.run(1), 4);
        x.type('b', 1);
        x.enter();
        read("the next line", "b", x);
        StoryMachine empty = reading().machine;
        empty.enter();
        read("an empty line", "", empty);
        Check.same("the next one waits", empty.run(1), 4);
        Answers.after(LineEdgeTest::reading).areSeen("nothing else changes", () -> reading().line("abc"));
    }

    /** Promise 6: "(What was typed before and not read is there no more.)" */
    private static void whatWasNotReadIsThereNoMore() {
        StoryMachine x = reading().line("abc").line("de").machine;
        read("the second line", "de", x);
        Check.same("the first one is gone", x.run(1), 4);
        StoryMachine empty = reading().line("abc").line("").machine;
        read("an empty line behind it", "", empty);
        Check.same("the first one is gone", empty.run(1), 4);
        StoryMachine full = reading().line("abcdefghijklmnopqrstuvwx").machine;
        Check.allowed("a full line was entered", () -> type(full, 24));
        full.enter();
        read("24 more", "aaaaaaaaaaaaaaaaaaaaaaaa", full);
    }

    private static void typedAndNotEntered() {
        Story story = reading().line("ab");
        story.machine.type('c', 1);
        read("the line that was entered", "ab", story.machine);
        Check.same("what is typed waits", story.machine.run(1), 4);
        story.line("d");
        read("what was typed goes on", "cd", story.machine);
    }

    /** Promise 4: "no line typed" */
    private static void beginForgetsTheLine() {
        StoryMachine entered = reading().line("ab").machine;
        entered.begin();
        Check.same("entered", entered.run(1), 4);
        StoryMachine typed = reading().machine;
        type(typed, 24);
        typed.begin();
        Check.allowed("24 fit anew", () -> type(typed, 24));
        Check.refused("25", IllegalStateException.class, () -> typed.type('a', 1));
        StoryMachine both = reading().machine;
        both.type('x', 1);
        both.begin();
        both.type('y', 1);
        both.enter();
        read("typed before and after", "y", both);
    }
}
