/** Terms, SAVE and RESTORE: both sides of each edge, and what comes back and stays. */
public final class SaveEdgeTest extends Edge {
    public static void main(String[] args) {
        whenThereIsNothingItIsFalse();
        beginForgetsWhatWasPutAside();
        asIfItHadBranchedByTrue();
        itReturnsBeforeItIsPutAside();
        aSaveInTrouble();
        whatComesBack();
        aFullStackAndTenRoutinesComeBack();
        whatWasWrittenOverComesBack();
        whatWasPutAsideLast();
        whatStays();
        restoreReadsItsBranch();
        Check.end();
    }

    /** "when there is nothing, it is false" */
    private static void whenThereIsNothingItIsFalse() {
        done("by true", none(6, BY_TRUE), Story::new, NOTHING);
        done("by false", none(6, 64 + 20), Story::new, due -> due.place += BRANCHED);
        done("by true, long", none(6, 129, 0), Story::new, NOTHING);
        done("by false, long", none(6, 1, 0), Story::new, due -> due.place += 254);
        bad("returns from the story", none(6, 64));
        done("returns 1 from a routine", 0, () -> withRoutines(new Story(), 1, none(6, 64 + 1)), due -> {
            due.global(G1, 1).routines = 0;
            due.place = CODE + 4;
        });
    }

    /** Promise 4: "nothing put aside" */
    private static void beginForgetsWhatWasPutAside() {
        done("begun anew", 2, () -> {
            Story story = Story.of(none(5, 64 + 2));
            Check.same("saves", story.machine.run(1), 0);
            return story.begin(none(6, BY_TRUE));
        }, NOTHING);
        done("begun anew where it cannot", 0, () -> {
            Story story = Story.of(join(none(5, 64 + 2), none(6, BY_TRUE)));
            Check.same("saves", story.machine.run(1), 0);
            story.word(4, 512);
            Check.refused("begin", IllegalStateException.class, story.machine::begin);
            return story;
        }, due -> due.word(4, CODE));
    }

    /** "where it goes on, as if it had branched by true" */
    private static void asIfItHadBranchedByTrue() {
        int[][] rows = {{BY_TRUE, 18}, {64 + 20, 0}, {192 + 2, 0}, {192 + 63, 61}, {64, 0}, {65, 0}};
        for (int[] row : rows) {
            done("save with the branch " + row[0], none(5, row[0]), Story::new, due -> due.place += row[1]);
            int to = CODE + 2 + row[1];
            done("restore of the branch " + row[0], 0, () -> {
                Story story = new Story().bytes(to, none(6, 192)).begin(none(5, row[0]));
                Check.same("saves", story.machine.run(1), 0);
                return story;
            }, NOTHING);
        }
        done("backwards", none(5, 128 + 63, 255), Story::new, due -> due.place -= 3);
    }

    /** "as if it had branched by true": by an offset of 0 or 1 it returns */
    private static void itReturnsBeforeItIsPutAside() {
        for (int value : new int[] {0, 1}) {
            done("save returns " + value, 0, () -> withRoutines(new Story().word(GLOBALS + 2, 9), 2, none(5, 192 + value)),
                    due -> {
                        due.global(G1, value).routines = 1;
                        due.place = ROUTINE + 5;
                    });
            Story story = withRoutines(new Story().word(GLOBALS + 2, 9), 2, none(5, 192 + value));
            story.bytes(ROUTINE + 5, join(new int[] {13, G1, 77}, none(6, 192)));
            Check.same("it saves and returns, changes and restores", story.machine.run(3), 0);
            Check.same("what it gave comes back", story.global(G1), value);
            Check.same("one routine", story.machine.routines(), 1);
            Check.same("where it went on", story.machine.place(), ROUTINE + 5);
        }
    }

    /** "What a step has done before there is trouble stays so" */
    private static void aSaveInTrouble() {
        bad("the story returns", none(5, 192));
        trouble("what it returns cannot be written", BAD, () -> {
            Story story = new Story().bytes(ROUTINE, 0, Story.SAVE, 193).begin(224, 127, ROUTINE / 2, 48);
            Check.same("calls", story.machine.run(1), 0);
            return story;
        }, due -> due.routines = 0);
    }

    /** "SAVE puts aside memory, stack, locals, routines" */
    private static void whatComesBack() {
        done("all of them", 0, () -> {
            Story story = withLocals(new Story(), 3, join(many(8, "b", 50), none(5, 64 + 2), new int[] {13, 2, 9},
                    many(8, "b", 51), many(2, "www", 511, 0, 77), many(2, "bbb", 16, 0, 78), none(6, 192)));
            Check.same("saves and changes", story.machine.run(6), 0);
            Check.same("two words", story.machine.stack(-1), 2);
            Check.same("a local", story.machine.local(2), 9);
            Check.same("the last byte", story.machine.peek(511), 77);
            Check.same("the first one that can be written", story.machine.peek(16), 78);
            return story.bytes(0, 99);
        }, due -> {
            due.pop().bytes(511, 0).bytes(16, 0).bytes(0, 0).locals[1] = 102;
            due.place = ROUTINE + 7 + 5;
        });
    }

    private static void aFullStackAndTenRoutinesComeBack() {
        done("48 words", 0, () -> {
            Story story = withWords(new Story(), 48, join(none(5, 64 + 2), none(9), none(9), none(6, 192)));
            Check.same("saves, and two go", story.machine.run(3), 0);
            return story;
        }, due -> {
            due.push(47).push(48);
            due.place = CODE + 2;
        });
        done("no words", 0, () -> {
            Story story = Story.of(join(none(5, 64 + 2), many(8, "b", 1), none(6, 192)));
            Check.same("saves, and one comes", story.machine.run(2), 0);
            return story;
        }, due -> due.pop().place = CODE + 2);
        done("ten routines", 0, () -> {
            Story story = withRoutines(new Story(), 10, join(none(5, 64 + 2), none(0)));
            story.bytes(ROUTINE + 5, none(0));
            Check.same("saves, and all return", story.machine.run(11), 0);
            Check.same("none", story.machine.routines(), 0);
            return story.bytes(CODE + 4, none(6, 192));
        }, due -> {
            due.global(G1, 0).bytes(CODE + 4, 0, 0).routines = 10;
            due.place = ROUTINE + 3;
        });
    }

    /** A routine saves and returns; then other words and another routine stand where its own stood. */
    private static void whatWasWrittenOverComesBack() {
        int[] saves = join(many(8, "b", 60), none(5, 64 + 2), none(8));
        int[] other = join(new int[] {0}, many(8, "b", 80), many(8, "b", 81), none(6, 192));
        Story story = new Story().bytes(ROUTINE, 2, 0, 31, 0, 32).bytes(ROUTINE + 5, saves).bytes(FREE, other);
        story.begin(join(many(8, "b", 50), many(8, "b", 51), many(0, "b", ROUTINE / 2, G0), none(9),
                many(8, "b", 70), many(8, "b", 71), many(0, "b", FREE / 2, G1)));
        Check.same("it saves, returns, and calls the other one", story.machine.run(12), 0);
        Check.same("five words", story.machine.stack(-1), 5);
        Check.same("no locals", story.machine.local(0), 0);
        Check.same("restores", story.machine.run(1), 0);
        int[] words = {60, 51, 50};
        Check.same("three words", story.machine.stack(-1), words.length);
        for (int k = 0; k < words.length; k++) {
            Check.same("word " + k, story.machine.stack(k), words[k]);
        }
        Check.same("two locals", story.machine.local(0), 2);
        Check.same("the first one", story.machine.local(1), 31);
        Check.same("the second one", story.machine.local(2), 32);
        Check.same("returns", story.machine.run(1), 0);
        Check.same("behind its own call", story.machine.place(), CODE + 6 + 4);
        Check.same("to its own global", story.global(G0), 60);
        Check.same("not to the other's", story.global(G1), 0);
        Check.same("its words went, the story's did not", story.machine.stack(-1), 2);
        Check.same("the story's", story.machine.stack(0), 51);
    }

    /** "RESTORE brings back what was put aside last, and goes on there" */
    private static void whatWasPutAsideLast() {
        int[] code = join(none(5, 64 + 2), new int[] {13, G0, 5}, none(5, 64 + 2), new int[] {13, G0, 6}, none(6, 192));
        done("the second one", 0, () -> {
            Story story = Story.of(code);
            Check.same("saves twice", story.machine.run(4), 0);
            return story;
        }, due -> due.global(G0, 5).place = CODE + 7);
        done("again and again", 0, () -> {
            Story story = Story.of(code);
            Check.same("saves twice, restores twice", story.machine.run(8), 0);
            return story;
        }, due -> due.global(G0, 5).place = CODE + 7);
    }

    /** "(The random number, the line and what was put out stay as they are.)" */
    private static void whatStays() {
        int[] draw = many(7, "w", 1000, G0);
        int[] code = join(none(5, 64 + 2), draw, none(11), none(6, 192));
        Story story = Story.of(code);
        Check.same("saves, draws, puts out, restores", story.machine.run(4), 0);
        Check.same("what was given went", story.global(G0), 0);
        Check.same("a character is out", story.machine.output(-1), 1);
        Check.same("a new line", story.machine.output(0), 13);
        Check.same("four steps", story.machine.steps(), 4);
        Check.same("draws again", story.machine.run(1), 0);
        Check.same("the second number", story.global(G0), 99);

        int[] reading = join(none(5, 64 + 2), many(4, "bb", 200, 220), none(6, 192));
        Story read = new Story().bytes(200, 5).begin(reading).line("a");
        Check.same("saves, reads, restores", read.machine.run(3), 0);
        Check.same("what was read went", read.machine.peek(201), 0);
        Check.same("the line was read once", read.machine.run(1), 4);
        read.line("b");
        Check.same("another line", read.machine.run(1), 0);
        Check.same("it is read", read.machine.peek(201), 'b');
        Story entered = new Story().bytes(200, 5).begin(join(none(5, 64 + 2), none(4), none(6, 192)));
        Check.same("saves", entered.machine.run(2), 0);
        entered.line("c");
        Check.same("restores", entered.machine.run(1), 0);
        entered.bytes(CODE + 2, many(4, "bb", 200, 220));
        Check.same("the line that was entered since then", entered.machine.run(1), 0);
        Check.same("it is read", entered.machine.peek(201), 'c');
    }

    /** "then the other bytes are read, then it is done" */
    private static void restoreReadsItsBranch() {
        trouble("no branch", BAD, () -> {
            Story story = Story.of(join(none(5, 64 + 2), many(8, "b", 1), first(12, 511 - (CODE + 8) + 2)));
            Check.same("saves, and goes to the end", story.machine.run(3), 0);
            return story.bytes(511, Story.RESTORE);
        }, NOTHING);
    }
}
