import java.util.ArrayList;
import java.util.List;
import java.util.function.Supplier;

/**
 * All that an object answers: its memory, place, steps, output, stack, locals and routines. A test takes
 * the answers before a call, writes into them what the call is due to change, and compares them with
 * those after it: so what stays is looked at as well.
 */
final class Answers {
    private static final int HALF = 256;

    final int[] memory = new int[2 * HALF];
    /** The top is the last one. */
    final List<Integer> stack = new ArrayList<>();
    int[] locals = new int[0];
    int place;
    int steps;
    int routines;
    private int putOut;
    private String latest = "";

    /** The calls are made on two objects, since one is good for 512 calls alone. */
    static Answers after(Supplier<Story> calls) {
        Answers answers = new Answers();
        StoryMachine x = calls.get().machine;
        answers.lookAt(x);
        answers.lookAtMemory(x, 0);
        answers.lookAtMemory(calls.get().machine, HALF);
        return answers;
    }

    private void lookAt(StoryMachine x) {
        place = x.place();
        steps = x.steps();
        routines = x.routines();
        putOut = x.output(-1);
        StringBuilder text = new StringBuilder();
        for (int k = Math.min(64, putOut) - 1; k >= 0; k--) {
            text.append((char) x.output(k));
        }
        latest = text.toString();
        for (int k = x.stack(-1) - 1; k >= 0; k--) {
            stack.add(x.stack(k));
        }
        locals = new int[x.local(0)];
        for (int k = 1; k <= locals.length; k++) {
            locals[k - 1] = x.local(k);
        }
    }

    private void lookAtMemory(StoryMachine x, int from) {
        for (int place = from; place < from + HALF; place++) {
            memory[place] = x.peek(place);
        }
    }

    Answers bytes(int place, int... values) {
        System.arraycopy(values, 0, memory, place, values.length);
        return this;
    }

    Answers word(int place, int value) {
        return bytes(place, Story.high(value), Story.low(value));
    }

    Answers global(int variable, int value) {
        return word(Story.GLOBALS + 2 * (variable - 16), value);
    }

    Answers puts(String text) {
        putOut += text.length();
        latest += text;
        latest = latest.substring(Math.max(0, latest.length() - 64));
        return this;
    }

    void nothingPutOut() {
        putOut = 0;
        latest = "";
    }

    Answers push(int value) {
        stack.add(value);
        return this;
    }

    Answers pop() {
        stack.remove(stack.size() - 1);
        return this;
    }

    void areSeen(String what, Supplier<Story> calls) {
        Answers seen = after(calls);
        Check.same(what + ": place", seen.place, place);
        Check.same(what + ": steps", seen.steps, steps);
        Check.same(what + ": routines", seen.routines, routines);
        Check.same(what + ": how many characters", seen.putOut, putOut);
        Check.same(what + ": the latest are \"" + seen.latest + "\", \"" + latest + "\"",
                seen.latest.equals(latest) ? 0 : 1, 0);
        Check.same(what + ": how many words on the stack", seen.stack.size(), stack.size());
        for (int i = 0; i < Math.min(seen.stack.size(), stack.size()); i++) {
            Check.same(what + ": word " + i + " of the stack", seen.stack.get(i), stack.get(i));
        }
        Check.same(what + ": how many locals", seen.locals.length, locals.length);
        for (int i = 0; i < Math.min(seen.locals.length, locals.length); i++) {
            Check.same(what + ": local " + (i + 1), seen.locals[i], locals[i]);
        }
        for (int i = 0; i < memory.length; i++) {
            Check.same(what + ": byte " + i, seen.memory[i], memory[i]);
        }
    }
}
