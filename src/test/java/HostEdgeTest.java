import java.util.function.Consumer;
import java.util.function.Supplier;

/** Promises 1 to 4 and 7 to 13: both sides of each edge, and what has stayed when a call is refused. */
public final class HostEdgeTest extends Edge {
    private static final int[] FAR = {Integer.MIN_VALUE, Integer.MIN_VALUE + 1, -65536, 65536, Integer.MAX_VALUE - 1,
        Integer.MAX_VALUE};

    public static void main(String[] args) {
        aNewObject();
        pokeWritesOneToEightBytes();
        pokeRefusesOtherNumbers();
        pokeRefusesBytesThatAreNotAllThere();
        peekAnswersTheBytes0To511();
        beginRefusesAPlaceOutside();
        beginClears();
        runDoesOneTo300Steps();
        runRefusesOtherNumbers();
        runRefusesWithoutAStory();
        runRefusesAfterTheEnd();
        runRefusesAfterTrouble();
        runTellsHowItWent();
        stepsThatWereDone();
        placesWhereItGoesOn();
        outputOfTheLatest64();
        stackFromTheTop();
        localsThatAreThere();
        routinesThatHaveNotReturned();
        Check.end();
    }

    /** A story with something of everything: a routine, locals, words, output, steps, a written byte. */
    private static Story rich() {
        Story story = withLocals(new Story(), 3, join(many(8, "b", 50), many(8, "w", 65535), none(11), many(5, "b", 65),
                many(2, "www", 400, 0, 77), none(4), none(4)));
        Check.same("something of everything", story.machine.run(5), 0);
        return story;
    }

    private static void refusedAlways(String what, Class<? extends RuntimeException> due, Consumer<StoryMachine> call) {
        refused(what + ", new", due, HostEdgeTest::unbegun, call);
        refused(what + ", begun", due, HostEdgeTest::rich, call);
        refused(what + ", ended", due, HostEdgeTest::ended, call);
    }

    private static Story unbegun() {
        return new Story();
    }

    private static Story ended() {
        Story story = Story.of(Story.NEW_LINE, Story.END);
        Check.same("ends", story.machine.run(2), 5);
        return story;
    }

    /** Promise 1: "Memory 0, no story begun." */
    private static void aNewObject() {
        StoryMachine low = new StoryMachine();
        StoryMachine high = new StoryMachine();
        for (int place = 0; place < 256; place++) {
            Check.same("byte " + place, low.peek(place), 0);
            Check.same("byte " + (256 + place), high.peek(256 + place), 0);
        }
        Check.same("place", low.place(), -1);
        Check.same("steps", low.steps(), 0);
        Check.same("output", low.output(-1), 0);
        Check.same("stack", low.stack(-1), 0);
        Check.same("routines", low.routines(), 0);
        for (int k = 0; k <= 15; k++) {
            Check.same("local " + k, low.local(k), 0);
        }
        Check.refused("run", IllegalStateException.class, () -> low.run(1));
        Check.allowed("begin", low::begin);
        Check.same("its story begins at 0", low.place(), 0);
    }

    private static void pokes(String what, int place, long bytes, int n, int... due) {
        Supplier<Story> before = () -> new Story().bytes(place - 1, 9).bytes(Math.min(511, place + n), 9);
        Answers answers = Answers.after(before);
        answers.bytes(place, due);
        answers.areSeen(what, () -> {
            Story story = before.get();
            story.machine.poke(place, bytes, n);
            return story;
        });
    }

    /** Promise 2: "n bytes (1 .. 8) from a place on: the lowest of bytes, the highest of these first" */
    private static void pokeWritesOneToEightBytes() {
        long bytes = 0xF1E2D3C4B5A69788L;
        int[] all = {0xF1, 0xE2, 0xD3, 0xC4, 0xB5, 0xA6, 0x97, 0x88};
        for (int n = 1; n <= 8; n++) {
            int[] due = new int[n];
            System.arraycopy(all, 8 - n, due, 0, n);
            pokes(n + " bytes", 400, bytes, n, due);
            pokes(n + " bytes up to the last one", 512 - n, bytes, n, due);
        }
        pokes("-1", 400, -1, 8, 255, 255, 255, 255, 255, 255, 255, 255);
        pokes("the lowest long", 400, Long.MIN_VALUE, 8, 128, 0, 0, 0, 0, 0, 0, 0);
        pokes("the highest long", 400, Long.MAX_VALUE, 8, 127, 255, 255, 255, 255, 255, 255, 255);
        pokes("0", 400, 0, 1, 0);
        StoryMachine first = new StoryMachine();
        first.poke(0, bytes, 8);
        for (int i = 0; i < 8; i++) {
            Check.same("from 0 on, " + i, first.peek(i), all[i]);
        }
        StoryMachine ended = ended().machine;
        Check.allowed("when the story has ended", () -> ended.poke(400, 7, 1));
        Check.same("it is there", ended.peek(400), 7);
    }

    /** Promise 2: "IllegalArgumentException: n is not so" */
    private static void pokeRefusesOtherNumbers() {
        for (int n : new int[] {0, 9, -1, -8, 10, 16, 264}) {
            refusedAlways("n " + n, IllegalArgumentException.class, x -> x.poke(100, -1, n));
        }
        for (int n : FAR) {
            refused("n " + n, IllegalArgumentException.class, HostEdgeTest::rich, x -> x.poke(100, -1, n));
        }
    }

    /** Promise 2: "or they are not all there" */
    private static void pokeRefusesBytesThatAreNotAllThere() {
        for (int n = 1; n <= 8; n++) {
            int number = n;
            refused("one too far, n " + n, IllegalArgumentException.class, HostEdgeTest::rich,
                    x -> x.poke(513 - number, -1, number));
            refused("-1, n " + n, IllegalArgumentException.class, HostEdgeTest::rich, x -> x.poke(-1, -1, number));
        }
        refusedAlways("512", IllegalArgumentException.class, x -> x.poke(512, -1, 1));
        refusedAlways("511, two", IllegalArgumentException.class, x -> x.poke(511, -1, 2));
        refusedAlways("-1", IllegalArgumentException.class, x -> x.poke(-1, -1, 1));
        for (int place : FAR) {
            refused("place " + place, IllegalArgumentException.class, HostEdgeTest::rich, x -> x.poke(place, -1, 1));
            refused("place " + place + ", eight", IllegalArgumentException.class, HostEdgeTest::rich,
                    x -> x.poke(place, -1, 8));
        }
    }

    /** Promise 3: "A byte of the memory. IllegalArgumentException: there is none." */
    private static void peekAnswersTheBytes0To511() {
        StoryMachine x = new StoryMachine();
        x.poke(0, 255, 1);
        x.poke(511, 128, 1);
        Check.same("0", x.peek(0), 255);
        Check.same("1", x.peek(1), 0);
        Check.same("510", x.peek(510), 0);
        Check.same("511", x.peek(511), 128);
        refusedAlways("-1", IllegalArgumentException.class, y -> y.peek(-1));
        refusedAlways("512", IllegalArgumentException.class, y -> y.peek(512));
        for (int place : FAR) {
            refused("place " + place, IllegalArgumentException.class, HostEdgeTest::rich, y -> y.peek(place));
        }
    }

    /** Promise 4: "IllegalStateException: it would begin outside of the memory." */
    private static void beginRefusesAPlaceOutside() {
        for (int start : new int[] {0, 1, 510, 511}) {
            StoryMachine x = new StoryMachine();
            x.poke(4, start, 2);
            Check.allowed("start " + start, x::begin);
            Check.same("place " + start, x.place(), start);
        }
        for (int start : new int[] {512, 513, 768, 32767, 32768, 65535}) {
            refused("start " + start + ", new", IllegalStateException.class, () -> new Story().word(4, start),
                    StoryMachine::begin);
            refused("start " + start + ", begun", IllegalStateException.class, () -> rich().word(4, start),
                    StoryMachine::begin);
            refused("start " + start + ", ended", IllegalStateException.class, () -> ended().word(4, start),
                    StoryMachine::begin);
        }
        done("the story goes on after that", 1, () -> {
            Story story = rich().word(4, 512);
            Check.refused("begin", IllegalStateException.class, story.machine::begin);
            return story;
        }, NOTHING);
        done("random goes on after that", 4, () -> {
            Story story = Story.of(231, 127, 200, TOP, 231, 127, 200, TOP).word(4, 512);
            story.machine.run(1);
            Check.refused("begin", IllegalStateException.class, story.machine::begin);
            return story;
        }, due -> due.push(99));
        done("the line stays after that", 4, () -> {
            Story story = new Story().bytes(200, 5).begin(many(4, "bb", 200, 220)).line("ab").word(4, 512);
            Check.refused("begin", IllegalStateException.class, story.machine::begin);
            return story;
        }, due -> due.bytes(201, 'a', 'b', 0));
        Story typing = new Story().bytes(200, 5).begin(many(4, "bb", 200, 220)).word(4, 512);
        typing.machine.type('a', 1);
        Check.refused("begin", IllegalStateException.class, typing.machine::begin);
        typing.line("b");
        Check.same("reads", typing.machine.run(1), 0);
        Check.same("what was typed stays after that", typing.machine.peek(201), 'a');
        Check.same("and is followed", typing.machine.peek(202), 'b');
    }

    /** Promise 4: "with an empty stack, no locals, random number 0, nothing put out, no line typed, nothing put aside" */
    private static void beginClears() {
        Answers due = Answers.after(HostEdgeTest::rich);
        due.stack.clear();
        due.locals = new int[0];
        due.routines = 0;
        due.steps = 0;
        due.place = CODE;
        due.nothingPutOut();
        due.areSeen("begun anew", () -> rich().begin());
        trouble("no word is left", STACK, () -> rich().begin(none(9)), NOTHING);
        trouble("no local is left", BAD, () -> rich().begin(149, 1), NOTHING);
        trouble("no routine is left", BAD, () -> rich().begin(none(0)), NOTHING);
        trouble("no line is left", WAITING, () -> rich().line("a").begin(many(4, "bb", 200, 220)), NOTHING);
        done("48 words fit anew", 3, () -> withWords(rich(), 47, many(8, "b", 7)), answers -> answers.push(7));
        done("ten routines fit anew", 0, () -> withRoutines(rich(), 9, 224, 127, ROUTINE / 2, G1),
                answers -> answers.routines++);
    }

    private static Story endless() {
        return Story.of(Story.NOTHING, 140, 255, 254);
    }

    /** Promise 7: "So many steps (1 .. 300)" */
    private static void runDoesOneTo300Steps() {
        for (int steps : new int[] {1, 2, 299, 300}) {
            StoryMachine x = endless().machine;
            Check.same("run " + steps, x.run(steps), 0);
            Check.same("steps " + steps, x.steps(), steps);
            Check.same("place", x.place(), CODE + steps % 2);
        }
    }

    /** Promise 7: "IllegalArgumentException: steps is not so" */
    private static void runRefusesOtherNumbers() {
        for (int steps : new int[] {0, 301, -1, -300, 302, 512}) {
            refusedAlways("steps " + steps, IllegalArgumentException.class, x -> x.run(steps));
        }
        for (int steps : FAR) {
            refused("steps " + steps, IllegalArgumentException.class, HostEdgeTest::endless, x -> x.run(steps));
        }
        done("it goes on after that", 1, () -> {
            Story story = endless();
            Check.refused("301", IllegalArgumentException.class, () -> story.machine.run(301));
            return story;
        }, NOTHING);
    }

    /** Promise 7: "IllegalStateException: no story was begun" */
    private static void runRefusesWithoutAStory() {
        for (int steps : new int[] {1, 300}) {
            refused("new, " + steps, IllegalStateException.class, HostEdgeTest::unbegun, x -> x.run(steps));
            refused("begin was refused, " + steps, IllegalStateException.class, () -> {
                Story story = new Story().word(4, 512);
                Check.refused("begin", IllegalStateException.class, story.machine::begin);
                return story;
            }, x -> x.run(steps));
        }
    }

    /** Promise 7: "or it has ended" */
    private static void runRefusesAfterTheEnd() {
        for (int steps : new int[] {1, 300}) {
            refused("ended, " + steps, IllegalStateException.class, HostEdgeTest::ended, x -> x.run(steps));
        }
        done("begun anew", 1, () -> ended().begin(), due -> due.puts("\r"));
    }

    /** Promise 7: "or had a trouble other than 4" */
    private static void runRefusesAfterTrouble() {
        int[][] codes = {{0, 0, 0}, {Story.TOP_GOES}, {23, 1, 0, G0}};
        for (int trouble = 1; trouble <= 3; trouble++) {
            int[] code = codes[trouble - 1];
            int answer = trouble;
            Supplier<Story> after = () -> {
                Story story = Story.of(code);
                Check.same("trouble", story.machine.run(1), answer);
                return story.bytes(CODE, Story.NOTHING, Story.NOTHING);
            };
            refused("trouble " + trouble, IllegalStateException.class, after, x -> x.run(1));
            refused("trouble " + trouble + ", 300 steps", IllegalStateException.class, after, x -> x.run(300));
            done("begun anew after trouble " + trouble, 1, () -> after.get().begin(), NOTHING);
        }
        done("trouble 4", 1, () -> {
            Story story = Story.of(many(4, "bb", 200, 220));
            Check.same("trouble", story.machine.run(1), 4);
            return story.bytes(CODE, Story.NOTHING);
        }, NOTHING);
    }

    /** Promise 7: "or until there is trouble or the story ends: 0 they were done, 5 it has ended, or the trouble" */
    private static void runTellsHowItWent() {
        int[][] last = {{0, 0, 0}, {Story.TOP_GOES}, {23, 1, 0, G0}, many(4, "bb", 200, 220), {Story.END}};
        for (int answer = 1; answer <= 5; answer++) {
            int done = answer == 5 ? 3 : 2;
            int[] code = join(none(4), none(4), last[answer - 1], none(4));
            StoryMachine before = Story.of(code).machine;
            Check.same("two steps before " + answer, before.run(2), 0);
            Check.same("then " + answer, before.run(1), answer);
            for (int steps : new int[] {3, 4, 300}) {
                StoryMachine x = Story.of(code).machine;
                Check.same("run " + steps, x.run(steps), answer);
                Check.same("steps that were done", x.steps(), done);
                Check.same("place", x.place(), CODE + done);
            }
        }
    }

    /** Promise 8: "How many steps were done since the story was begun." */
    private static void stepsThatWereDone() {
        StoryMachine x = endless().machine;
        int due = 0;
        for (int steps : new int[] {1, 300, 300, 7, 300}) {
            Check.same("run", x.run(steps), 0);
            due += steps;
            Check.same("steps", x.steps(), due);
        }
        x.begin();
        Check.same("begun anew", x.steps(), 0);
        Check.same("none", new StoryMachine().steps(), 0);
    }

    /** Promise 9: "Where it goes on; -1 when no story was begun." */
    private static void placesWhereItGoesOn() {
        Check.same("new", new StoryMachine().place(), -1);
        StoryMachine refused = new Story().word(4, 512).machine;
        Check.refused("begin", IllegalStateException.class, refused::begin);
        Check.same("begin was refused", refused.place(), -1);
        Story zero = new Story().word(4, 0).bytes(0, Story.NOTHING);
        zero.machine.begin();
        Check.same("0", zero.machine.place(), 0);
        Check.same("run", zero.machine.run(1), 0);
        Check.same("1", zero.machine.place(), 1);
        Story last = new Story().word(4, 511).bytes(511, Story.NOTHING);
        last.machine.begin();
        Check.same("511", last.machine.place(), 511);
        Check.same("run", last.machine.run(1), 0);
        Check.same("behind the memory", last.machine.place(), 512);
        Check.same("there is no byte", last.machine.run(1), 1);
        Check.same("the place of the trouble", last.machine.place(), 512);
    }

    /** It puts out 0, 1, 2, .., modulo 256. */
    private static Story putting(int characters) {
        Story story = Story.of(229, Story.types("v"), G0, 149, G0, 140, 255, 250);
        for (int left = characters; left > 0; left -= 100) {
            Check.same("run", story.machine.run(3 * Math.min(100, left)), 0);
        }
        return story;
    }

    /** Promise 10: "the one that was put out k-th latest (0 .. 63). IndexOutOfBoundsException: there is none." */
    private static void outputOfTheLatest64() {
        for (int characters : new int[] {0, 1, 2, 63, 64, 65, 127, 128, 129, 300}) {
            StoryMachine x = putting(characters).machine;
            Check.same("how many", x.output(-1), characters);
            int kept = Math.min(64, characters);
            for (int k = 0; k < kept; k++) {
                Check.same(k + " of " + characters, x.output(k), (characters - 1 - k) % 256);
            }
            refused("behind the " + kept + " of " + characters, IndexOutOfBoundsException.class,
                    () -> putting(characters), y -> y.output(kept));
        }
        refusedAlways("-2", IndexOutOfBoundsException.class, y -> y.output(-2));
        refusedAlways("64", IndexOutOfBoundsException.class, y -> y.output(64));
        for (int k : FAR) {
            refused("k " + k, IndexOutOfBoundsException.class, () -> putting(70), y -> y.output(k));
        }
    }

    /** Promise 11: "or the k-th from the top, 0 .. 65535. IndexOutOfBoundsException: there is none." */
    private static void stackFromTheTop() {
        for (int words : new int[] {0, 1, 2, 47, 48}) {
            StoryMachine x = withWords(new Story(), words).machine;
            Check.same("how many", x.stack(-1), words);
            for (int k = 0; k < words; k++) {
                Check.same(k + " of " + words, x.stack(k), words - k);
            }
            refused("behind the " + words, IndexOutOfBoundsException.class, () -> withWords(new Story(), words),
                    y -> y.stack(words));
        }
        refusedAlways("-2", IndexOutOfBoundsException.class, y -> y.stack(-2));
        refusedAlways("48", IndexOutOfBoundsException.class, y -> y.stack(48));
        for (int k : FAR) {
            refused("k " + k, IndexOutOfBoundsException.class, () -> withWords(new Story(), 48), y -> y.stack(k));
        }
        StoryMachine values = Story.of(join(many(8, "w", 0), many(8, "w", 32768), many(8, "w", 65535))).machine;
        Check.same("run", values.run(3), 0);
        Check.same("65535", values.stack(0), 65535);
        Check.same("32768", values.stack(1), 32768);
        Check.same("0", values.stack(2), 0);
        StoryMachine all = rich().machine;
        Check.same("words of the routine", all.stack(-1), 2);
        StoryMachine gone = withWords(new Story(), 2, none(9)).machine;
        Check.same("run", gone.run(1), 0);
        Check.refused("a word that went", IndexOutOfBoundsException.class, () -> gone.stack(1));
    }

    /**
     * Promise 12: "Local 1 .. 15 of the routine, 0 .. 65535; 0 where there are not so many. k = 0: how many there are.
     * IndexOutOfBoundsException: k is not 0 .. 15."
     */
    private static void localsThatAreThere() {
        for (int locals : new int[] {0, 1, 14, 15}) {
            StoryMachine x = withLocals(new Story(), locals).machine;
            Check.same("how many", x.local(0), locals);
            for (int k = 1; k <= 15; k++) {
                Check.same("local " + k + " of " + locals, x.local(k), k <= locals ? 100 + k : 0);
            }
        }
        refusedAlways("-1", IndexOutOfBoundsException.class, y -> y.local(-1));
        refusedAlways("16", IndexOutOfBoundsException.class, y -> y.local(16));
        for (int k : FAR) {
            refused("k " + k, IndexOutOfBoundsException.class, HostEdgeTest::rich, y -> y.local(k));
        }
        StoryMachine values = Story.of(224, 127, ROUTINE / 2, G0).machine;
        values.poke(ROUTINE, 0x02FFFF8000L, 5);
        Check.same("run", values.run(1), 0);
        Check.same("65535", values.local(1), 65535);
        Check.same("32768", values.local(2), 32768);
        StoryMachine returned = withLocals(new Story(), 15, Story.RETURN_0).machine;
        Check.same("run", returned.run(1), 0);
        for (int k = 0; k <= 15; k++) {
            Check.same("returned, " + k, returned.local(k), 0);
        }
    }

    /** Promise 13: "How many routines were called that have not returned." */
    private static void routinesThatHaveNotReturned() {
        for (int routines = 0; routines <= 10; routines++) {
            Check.same("routines", withRoutines(new Story(), routines).machine.routines(), routines);
        }
        StoryMachine x = withRoutines(new Story(), 10, none(0)).bytes(ROUTINE + 5, none(0)).machine;
        for (int left = 9; left >= 0; left--) {
            Check.same("run", x.run(1), 0);
            Check.same("left", x.routines(), left);
        }
        Check.same("new", new StoryMachine().routines(), 0);
    }
}
