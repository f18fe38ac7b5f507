/** Promise 6. */
public final class EnterTest {
    private static final int TEXT = 200;
    private static final int WORDS = 240;

    public static void main(String[] args) {
        theNextReadTakesIt();
        aSecondLineReplacesTheFirst();
        anEmptyLineIsALine();
        typingGoesOnBesideALineThatWaits();
        Check.end();
    }

    private static Story reading() {
        return new Story().bytes(TEXT, 30).bytes(WORDS, 0)
                .begin(228, 95, TEXT, WORDS, 228, 95, TEXT, WORDS, Story.END);
    }

    private static void due(Story story, String text) {
        for (int i = 0; i < text.length(); i++) {
            Check.same("character " + i + " of " + text, story.machine.peek(TEXT + 1 + i), text.charAt(i));
        }
        Check.same("behind " + text, story.machine.peek(TEXT + 1 + text.length()), 0);
    }

    private static void theNextReadTakesIt() {
        Story story = reading();
        story.machine.type('a', 1);
        Check.same("what is typed is not entered", story.machine.run(1), 4);
        story.machine.enter();
        Check.same("entered", story.machine.run(1), 0);
        due(story, "a");
        Check.same("it is read once", story.machine.run(1), 4);
        story.line("b");
        Check.same("the next one", story.machine.run(2), 5);
        due(story, "b");
    }

    private static void aSecondLineReplacesTheFirst() {
        Story story = reading().line("first").line("two");
        Check.same("run", story.machine.run(1), 0);
        due(story, "two");
        Check.same("the first one is there no more", story.machine.run(1), 4);
    }

    private static void anEmptyLineIsALine() {
        Story story = reading().line("abc").line("");
        story.bytes(TEXT + 1, 9, 9);
        Check.same("run", story.machine.run(1), 0);
        due(story, "");
        Check.same("only a 0 is written", story.machine.peek(TEXT + 2), 9);
        Check.same("read", story.machine.run(1), 4);
    }

    private static void typingGoesOnBesideALineThatWaits() {
        Story story = reading().line("ab");
        story.machine.type('c', 1);
        Check.same("run", story.machine.run(1), 0);
        due(story, "ab");
        story.line("d");
        Check.same("run", story.machine.run(1), 0);
        due(story, "cd");
    }
}
