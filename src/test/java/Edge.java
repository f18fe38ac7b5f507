import java.util.function.Consumer;
import java.util.function.Supplier;

/** What the tests of edges share: steps that are done, steps in trouble and refused calls, with all that changes. */
abstract class Edge {
    static final int BAD = 1;
    static final int STACK = 2;
    static final int DIVISION = 3;
    static final int WAITING = 4;
    static final int ENDED = 5;

    static final int TOP = Story.TOP;
    static final int G0 = Story.G0;
    static final int G1 = Story.G1;
    static final int CODE = Story.CODE;
    static final int GLOBALS = Story.GLOBALS;
    static final int ROUTINE = Story.ROUTINE;
    static final int FREE = Story.FREE;

    /** A branch by true that adds 18 to the place. */
    static final int BY_TRUE = 128 + 64 + 20;
    static final int BRANCHED = 18;

    static final Consumer<Answers> NOTHING = due -> { };

    /** An instruction with a byte of types: w a word, b a byte, v a variable; what is left over follows as bytes. */
    static int[] typed(int b, String kinds, int... values) {
        int[] code = new int[2 + values.length + kinds.replaceAll("[^w]", "").length()];
        code[0] = b;
        code[1] = Story.types(kinds);
        int at = 2;
        for (int i = 0; i < values.length; i++) {
            if (i < kinds.length() && kinds.charAt(i) == 'w') {
                code[at++] = Story.high(values[i]);
            }
            code[at++] = Story.low(values[i]);
        }
        return code;
    }

    static int[] second(int operation, String kinds, int... values) {
        return typed(192 + operation, kinds, values);
    }

    static int[] many(int operation, String kinds, int... values) {
        return typed(224 + operation, kinds, values);
    }

    /** One number, always as a word. */
    static int[] first(int operation, int x, int... behind) {
        return join(new int[] {128 + operation, Story.high(x), Story.low(x)}, behind);
    }

    static int[] none(int operation, int... behind) {
        return join(new int[] {176 + operation}, behind);
    }

    static int[] join(int[]... parts) {
        int length = 0;
        for (int[] part : parts) {
            length += part.length;
        }
        int[] all = new int[length];
        int at = 0;
        for (int[] part : parts) {
            System.arraycopy(part, 0, all, at, part.length);
            at += part.length;
        }
        return all;
    }

    /** The story has so many words 1, 2, .. on its stack and goes on at CODE, where this code is. */
    static Story withWords(Story story, int words, int... code) {
        int counter = GLOBALS + 62;
        story.begin(149, 47, 232, Story.types("v"), 47, 140, 255, 250);
        if (words > 0) {
            Check.same(words + " words come on the stack", story.machine.run(3 * words), 0);
        }
        return story.word(counter, 0).bytes(CODE, code);
    }

    /** So many routines without locals are called, each by the one before; the last one has this code. */
    static Story withRoutines(Story story, int routines, int... code) {
        int[] call = {224, 127, ROUTINE / 2, G1};
        story.bytes(ROUTINE, 0).bytes(ROUTINE + 1, call).begin(call);
        if (routines > 0) {
            Check.same(routines + " routines are called", story.machine.run(routines), 0);
        }
        return story.bytes(routines > 0 ? ROUTINE + 1 : CODE, code);
    }

    /** The story has called a routine with so many locals, 101, 102, ..; it has this code. */
    static Story withLocals(Story story, int locals, int... code) {
        story.bytes(ROUTINE, locals);
        for (int i = 1; i <= locals; i++) {
            story.word(ROUTINE - 1 + 2 * i, 100 + i);
        }
        story.bytes(ROUTINE + 1 + 2 * locals, code).begin(224, 127, ROUTINE / 2, G1);
        Check.same("a routine with " + locals + " locals is called", story.machine.run(1), 0);
        return story;
    }

    /** The next step is done: it goes on so many bytes further, and this changes. */
    static void done(String what, int length, Supplier<Story> before, Consumer<Answers> change) {
        answered(what, 0, length, before, change);
    }

    /** The step in a new story is done: it goes on behind its code, and this changes. */
    static void done(String what, int[] code, Supplier<Story> before, Consumer<Answers> change) {
        done(what, code.length, () -> before.get().begin(code), change);
    }

    /** The next step ends the story. */
    static void ends(String what, int length, Supplier<Story> before) {
        answered(what, ENDED, length, before, NOTHING);
        Story after = before.get();
        after.machine.run(1);
        Check.refused(what + ": run when it has ended", IllegalStateException.class, () -> after.machine.run(1));
    }

    private static void answered(String what, int answer, int length, Supplier<Story> before,
            Consumer<Answers> change) {
        Answers due = Answers.after(before);
        due.steps++;
        due.place += length;
        change.accept(due);
        due.areSeen(what, () -> ran(what, before, 1, answer));
    }

    private static Story ran(String what, Supplier<Story> before, int steps, int answer) {
        Story story = before.get();
        Check.same(what + ": run", story.machine.run(steps), answer);
        return story;
    }

    /** The next step is in trouble: the place and the steps stay, this changes alone, and it does not go on. */
    static void trouble(String what, int trouble, Supplier<Story> before, Consumer<Answers> change) {
        Answers due = Answers.after(before);
        change.accept(due);
        due.areSeen(what, () -> ran(what, before, 300, trouble));
        due.areSeen(what + ", run again", () -> {
            Story story = ran(what, before, 1, trouble);
            if (trouble == WAITING) {
                Check.same(what + ": tried anew", story.machine.run(1), WAITING);
            } else {
                Check.refused(what + ": run again", IllegalStateException.class, () -> story.machine.run(1));
            }
            return story;
        });
    }

    /** The step in a new story is in trouble. */
    static void trouble(String what, int trouble, int[] code, Supplier<Story> before, Consumer<Answers> change) {
        trouble(what, trouble, () -> before.get().begin(code), change);
    }

    /** Nothing at all changes. */
    static void bad(String what, int[] code, Supplier<Story> before) {
        trouble(what, BAD, code, before, NOTHING);
    }

    static void bad(String what, int[] code) {
        bad(what, code, Story::new);
    }

    /** The next step asks: its last byte must be BY_TRUE. */
    static void asks(String what, boolean due, int[] code, Supplier<Story> before) {
        done(what, code, before, answers -> answers.place += due ? BRANCHED : 0);
    }

    /** The call is refused, and nothing changes. */
    static void refused(String what, Class<? extends RuntimeException> due, Supplier<Story> before,
            Consumer<StoryMachine> call) {
        Answers.after(before).areSeen(what, () -> {
            Story story = before.get();
            Check.refused(what, due, () -> call.accept(story.machine));
            return story;
        });
    }
}
