/** Terms, MEMORY and THE HEAD: both sides of each edge, and what has changed. */
public final class MemoryEdgeTest extends Edge {
    private static final int WORD_AT = 15;
    private static final int BYTE_AT = 16;
    private static final int WRITE_WORD = 1;
    private static final int WRITE_BYTE = 2;

    public static void main(String[] args) {
        memoryHasTheBytes0To511();
        aWordIsTheByteThereAndTheNextOne();
        aWordThatIsNotAllThereIsBad();
        asANumberAWordHasItsSign();
        whatIsGivenIsTakenModulo65536();
        whatIsWrittenIsTakenModulo65536();
        placesToReadAreNotTakenModulo();
        placesToWriteAreNotTakenModulo();
        whatAJumpAddsHasItsSign();
        bytesBelow16CannotBeWritten();
        bytesFromTheBaseOnCannotBeWritten();
        theBaseMayBeAnywhere();
        theBaseIsReadAtEachStep();
        readingKnowsNoBase();
        Check.end();
    }

    private static int[] read(int operation, int x, int y) {
        return second(operation, "ww", x, y, G0);
    }

    private static int[] write(int operation, int x, int y, int z) {
        return many(operation, "www", x, y, z);
    }

    private static Story base(int base) {
        return new Story().word(12, base);
    }

    /** "MEMORY has the bytes 0 .. 511." */
    private static void memoryHasTheBytes0To511() {
        done("byte 0", read(BYTE_AT, 0, 0), () -> new Story().bytes(0, 201), due -> due.global(G0, 201));
        done("byte 511", read(BYTE_AT, 511, 0), () -> new Story().bytes(511, 202), due -> due.global(G0, 202));
        bad("byte 512", read(BYTE_AT, 512, 0));
        bad("byte 513", read(BYTE_AT, 513, 0));
        bad("byte 32768", read(BYTE_AT, 32768, 0));
        bad("byte 65535", read(BYTE_AT, 65535, 0));
    }

    /** "A WORD at a place is 256 times the byte there and the next one" */
    private static void aWordIsTheByteThereAndTheNextOne() {
        done("1 and 2", read(WORD_AT, 400, 0), () -> new Story().bytes(399, 9, 1, 2, 9), due -> due.global(G0, 258));
        done("at an odd place", read(WORD_AT, 401, 0), () -> new Story().bytes(400, 9, 1, 2, 9),
                due -> due.global(G0, 258));
        done("the lowest", read(WORD_AT, 400, 0), () -> new Story().bytes(399, 9, 0, 0, 9).word(GLOBALS, 7),
                due -> due.global(G0, 0));
        done("the highest", read(WORD_AT, 400, 0), () -> new Story().bytes(400, 255, 255),
                due -> due.global(G0, 65535));
        done("written", write(WRITE_WORD, 400, 0, 258), Story::new, due -> due.bytes(400, 1, 2));
        done("the highest written", write(WRITE_WORD, 401, 0, 65535), Story::new, due -> due.bytes(401, 255, 255));
    }

    /** "To read a byte or word that is not all there .. is BAD." */
    private static void aWordThatIsNotAllThereIsBad() {
        done("the word 0", read(WORD_AT, 0, 0), () -> new Story().word(0, 0xABCD), due -> due.global(G0, 0xABCD));
        done("the word 510", read(WORD_AT, 510, 0), () -> new Story().word(510, 0xABCD),
                due -> due.global(G0, 0xABCD));
        bad("the word 511", read(WORD_AT, 511, 0));
        bad("the word 512", read(WORD_AT, 512, 0));
    }

    /** "as a number it is -32768 .. 32767 where that matters" */
    private static void asANumberAWordHasItsSign() {
        asks("32767 is greater than 0", true, second(3, "ww", 32767, 0, BY_TRUE), Story::new);
        asks("32768 is less than 0", true, second(2, "ww", 32768, 0, BY_TRUE), Story::new);
        asks("32768 is not greater than 0", false, second(3, "ww", 32768, 0, BY_TRUE), Story::new);
        asks("65535 is less than 0", true, second(2, "ww", 65535, 0, BY_TRUE), Story::new);
        done("32767 put out", many(6, "w", 32767), Story::new, due -> due.puts("32767"));
        done("32768 put out", many(6, "w", 32768), Story::new, due -> due.puts("-32768"));
        done("65535 put out", many(6, "w", 65535), Story::new, due -> due.puts("-1"));
        done("0 put out", many(6, "w", 0), Story::new, due -> due.puts("0"));
        done("32767 / 2", second(23, "ww", 32767, 2, G0), Story::new, due -> due.global(G0, 16383));
        done("32768 / 2", second(23, "ww", 32768, 2, G0), Story::new, due -> due.global(G0, 65536 - 16384));
        done("65535 / 65535", second(23, "ww", 65535, 65535, G0), Story::new, due -> due.global(G0, 1));
        done("65535 % 2", second(24, "ww", 65535, 2, G0), Story::new, due -> due.global(G0, 65535));
    }

    /** "what is written or given is taken modulo 65536": given */
    private static void whatIsGivenIsTakenModulo65536() {
        done("65534 + 1", second(20, "ww", 65534, 1, G0), Story::new, due -> due.global(G0, 65535));
        done("65535 + 1", second(20, "ww", 65535, 1, G0), () -> new Story().word(GLOBALS, 9), due -> due.global(G0, 0));
        done("65535 + 65535 to the stack", second(20, "ww", 65535, 65535, TOP), Story::new, due -> due.push(65534));
        done("32767 + 1 to the stack", second(20, "ww", 32767, 1, TOP), Story::new, due -> due.push(32768));
        done("1 - 1", second(21, "ww", 1, 1, G0), () -> new Story().word(GLOBALS, 9), due -> due.global(G0, 0));
        done("0 - 1", second(21, "ww", 0, 1, G0), Story::new, due -> due.global(G0, 65535));
        done("0 - 1 to the stack", second(21, "ww", 0, 1, TOP), Story::new, due -> due.push(65535));
        done("255 * 257", second(22, "ww", 255, 257, TOP), Story::new, due -> due.push(65535));
        done("256 * 256", second(22, "ww", 256, 256, TOP), Story::new, due -> due.push(0));
        done("65535 * 65535", second(22, "ww", 65535, 65535, TOP), Story::new, due -> due.push(1));
        done("32767 * 32767", second(22, "ww", 32767, 32767, TOP), Story::new, due -> due.push(1));
        done("-32768 * -32768", second(22, "ww", 32768, 32768, TOP), Story::new, due -> due.push(0));
        done("-32768 / -1", second(23, "ww", 32768, 65535, TOP), Story::new, due -> due.push(32768));
        done("-32767 / -1", second(23, "ww", 32769, 65535, TOP), Story::new, due -> due.push(32767));
        done("0 turned over", first(15, 0, TOP), Story::new, due -> due.push(65535));
        done("65535 turned over", first(15, 65535, TOP), Story::new, due -> due.push(0));
        done("given to a local", 7, () -> withLocals(new Story(), 1, second(20, "ww", 65535, 2, 1)),
                due -> due.locals[0] = 1);
    }

    /** "what is written or given is taken modulo 65536": written */
    private static void whatIsWrittenIsTakenModulo65536() {
        for (int[] row : new int[][] {{5, 65534, 65535}, {5, 65535, 0}, {6, 1, 0}, {6, 0, 65535}, {5, 32767, 32768},
            {6, 32768, 32767}}) {
            String what = "FIRST " + row[0] + " from " + row[1];
            done(what + ", global", first(row[0], G0), () -> new Story().word(GLOBALS, row[1]),
                    due -> due.global(G0, row[2]));
            done(what + ", stack", 3, () -> withTop(row[1], first(row[0], TOP)), due -> due.pop().push(row[2]));
            done(what + ", local", 3, () -> withLocal(row[1], first(row[0], 1)), due -> due.locals[0] = row[2]);
        }
        done("a byte becomes its lowest eight bits", write(WRITE_BYTE, 400, 0, 0x1FF), Story::new,
                due -> due.bytes(400, 255));
        done("256 as a byte", write(WRITE_BYTE, 400, 0, 256), () -> new Story().bytes(400, 9), due -> due.bytes(400, 0));
        done("255 as a byte", write(WRITE_BYTE, 400, 0, 255), Story::new, due -> due.bytes(400, 255));
    }

    private static Story withTop(int value, int... code) {
        Story story = new Story().begin(join(many(8, "w", value), code));
        story.machine.run(1);
        return story;
    }

    private static Story withLocal(int value, int... code) {
        Story story = new Story().bytes(ROUTINE, 1, Story.high(value), Story.low(value)).bytes(ROUTINE + 3, code);
        story.begin(224, 127, ROUTINE / 2, G0).machine.run(1);
        return story;
    }

    /** "places are not: x and y are 0 .. 65535 there": read */
    private static void placesToReadAreNotTakenModulo() {
        done("x + y is 511", read(BYTE_AT, 1, 510), () -> new Story().bytes(511, 77), due -> due.global(G0, 77));
        bad("x + y is 512", read(BYTE_AT, 1, 511));
        done("y is 511", read(BYTE_AT, 0, 511), () -> new Story().bytes(511, 77), due -> due.global(G0, 77));
        bad("y is 512", read(BYTE_AT, 0, 512));
        bad("x + y is 65536", read(BYTE_AT, 1, 65535));
        bad("x + y is 65536, the other way", read(BYTE_AT, 65535, 1));
        bad("x + y is 65636", read(BYTE_AT, 101, 65535));
        done("x + 2 y is 510", read(WORD_AT, 0, 255), () -> new Story().word(510, 777), due -> due.global(G0, 777));
        bad("x + 2 y is 511", read(WORD_AT, 1, 255));
        bad("x + 2 y is 512", read(WORD_AT, 0, 256));
        bad("x + 2 y is 65536", read(WORD_AT, 0, 32768));
        bad("x + 2 y is 65636", read(WORD_AT, 100, 32768));
        bad("x + 2 y is 131070 + 102", read(WORD_AT, 102, 65535));
        done("text at 2 x, 510", first(13, 255), () -> new Story().bytes(510, Story.text(6)), due -> due.puts("a"));
        bad("text at 2 x, 512", first(13, 256), () -> new Story().bytes(0, Story.text(6)));
        bad("text at 2 x, 65536", first(13, 32768), () -> new Story().bytes(0, Story.text(6)));
        bad("text at 2 x, 65736", first(13, 32868), () -> new Story().bytes(200, Story.text(6)));
        bad("a routine at 2 x, 65736", many(0, "w", 32868, G0), () -> new Story().bytes(200, 0));
        bad("a routine at 2 x, 65536", many(0, "w", 32768, G0));
    }

    /** "places are not: x and y are 0 .. 65535 there": written */
    private static void placesToWriteAreNotTakenModulo() {
        done("x + y is 511", write(WRITE_BYTE, 1, 510, 77), Story::new, due -> due.bytes(511, 77));
        bad("x + y is 512", write(WRITE_BYTE, 1, 511, 77), () -> base(65535));
        bad("x + y is 65536 + 100", write(WRITE_BYTE, 65535, 101, 77), () -> base(65535));
        bad("x + y is 65536 + 100, the other way", write(WRITE_BYTE, 101, 65535, 77), () -> base(65535));
        done("x + 2 y is 510", write(WRITE_WORD, 100, 205, 777), Story::new, due -> due.word(510, 777));
        bad("x + 2 y is 511", write(WRITE_WORD, 101, 205, 777), () -> base(65535));
        bad("x + 2 y is 512", write(WRITE_WORD, 100, 206, 777), () -> base(65535));
        bad("x + 2 y is 65536 + 100", write(WRITE_WORD, 100, 32768, 777), () -> base(65535));
        bad("x + 2 y is 131070 + 102", write(WRITE_WORD, 102, 65535, 777), () -> base(65535));
    }

    /** "what a jump adds has its sign" */
    private static void whatAJumpAddsHasItsSign() {
        int[][] rows = {{2, 0}, {3, 1}, {1, -1}, {0, -2}, {65535, -3}, {32767, 32765}, {32768, -32770}};
        for (int[] row : rows) {
            done("a jump by " + row[0], first(12, row[0]), Story::new, due -> due.place += row[1]);
        }
        int behind = CODE + 3;
        ends("a jump to 511", 1, () -> jumped(511 - behind + 2, new Story().bytes(511, Story.END)));
        trouble("a jump to 512", BAD, () -> jumped(512 - behind + 2, new Story()), NOTHING);
        ends("a jump to 0", 1, () -> jumped(-behind + 2, new Story().bytes(0, Story.END)));
        trouble("a jump to -2", BAD, () -> jumped(-2 - behind + 2, new Story()), NOTHING);
        done("a byte has no sign", new int[] {156, 255}, Story::new, due -> due.place += 253);
        done("a byte below 128", new int[] {156, 127}, Story::new, due -> due.place += 125);
    }

    private static Story jumped(int by, Story story) {
        story.begin(first(12, by));
        Check.same("jumps by " + by, story.machine.run(1), 0);
        return story;
    }

    /** "bytes .. below 16, cannot be written by the story": and a word is not written by half */
    private static void bytesBelow16CannotBeWritten() {
        bad("byte 0", write(WRITE_BYTE, 0, 0, 77));
        bad("byte 12, the base itself", write(WRITE_BYTE, 12, 0, 77));
        bad("byte 15", write(WRITE_BYTE, 15, 0, 77));
        done("byte 16", write(WRITE_BYTE, 16, 0, 77), Story::new, due -> due.bytes(16, 77));
        bad("word 0", write(WRITE_WORD, 0, 0, 0x1234));
        bad("word 14", write(WRITE_WORD, 14, 0, 0x1234));
        bad("word 15", write(WRITE_WORD, 15, 0, 0x1234));
        done("word 16", write(WRITE_WORD, 16, 0, 0x1234), Story::new, due -> due.word(16, 0x1234));
    }

    /** "bytes from there on .. cannot be written by the story": and a word is not written by half */
    private static void bytesFromTheBaseOnCannotBeWritten() {
        done("the byte below the base", write(WRITE_BYTE, 399, 0, 77), () -> base(400), due -> due.bytes(399, 77));
        bad("the byte at the base", write(WRITE_BYTE, 400, 0, 77), () -> base(400));
        bad("the byte behind the base", write(WRITE_BYTE, 401, 0, 77), () -> base(400));
        bad("the last byte", write(WRITE_BYTE, 511, 0, 77), () -> base(400));
        bad("the last byte, at the base", write(WRITE_BYTE, 511, 0, 77), () -> base(511));
        done("the word below the base", write(WRITE_WORD, 398, 0, 0x1234), () -> base(400),
                due -> due.word(398, 0x1234));
        bad("the word over the base", write(WRITE_WORD, 399, 0, 0x1234), () -> base(400));
        bad("the word at the base", write(WRITE_WORD, 400, 0, 0x1234), () -> base(400));
        done("the last word", write(WRITE_WORD, 510, 0, 0x1234), Story::new, due -> due.word(510, 0x1234));
        bad("the last word over the base", write(WRITE_WORD, 510, 0, 0x1234), () -> base(511));
    }

    private static void theBaseMayBeAnywhere() {
        bad("base 0", write(WRITE_BYTE, 16, 0, 77), () -> base(0));
        bad("base 15", write(WRITE_BYTE, 15, 0, 77), () -> base(15));
        bad("base 16", write(WRITE_BYTE, 16, 0, 77), () -> base(16));
        done("base 17", write(WRITE_BYTE, 16, 0, 77), () -> base(17), due -> due.bytes(16, 77));
        bad("base 17, a word", write(WRITE_WORD, 16, 0, 0x1234), () -> base(17));
        done("base 18, a word", write(WRITE_WORD, 16, 0, 0x1234), () -> base(18), due -> due.word(16, 0x1234));
        for (int base : new int[] {512, 513, 32768, 65535}) {
            done("byte 511, base " + base, write(WRITE_BYTE, 511, 0, 77), () -> base(base), due -> due.bytes(511, 77));
            bad("byte 512, base " + base, write(WRITE_BYTE, 512, 0, 77), () -> base(base));
            bad("word 511, base " + base, write(WRITE_WORD, 511, 0, 77), () -> base(base));
            bad("byte 15, base " + base, write(WRITE_BYTE, 15, 0, 77), () -> base(base));
        }
    }

    private static void theBaseIsReadAtEachStep() {
        int[] twice = join(write(WRITE_BYTE, 400, 0, 77), write(WRITE_BYTE, 400, 0, 78));
        trouble("the host sets the base lower", BAD, () -> {
            Story story = new Story().begin(twice);
            story.machine.run(1);
            return story.word(12, 400);
        }, NOTHING);
        done("the host sets the base higher", 8, () -> {
            Story story = base(400).begin(twice);
            return story.word(12, 401);
        }, due -> due.bytes(400, 77));
    }

    private static void readingKnowsNoBase() {
        done("a byte of the head", read(BYTE_AT, 5, 0), Story::new, due -> due.global(G0, CODE));
        done("a word from the base on", second(WORD_AT, "ww", 400, 0, TOP), () -> base(0).word(400, 777),
                due -> due.push(777));
        done("text from the base on", first(7, 400), () -> base(0).bytes(400, Story.text(6)), due -> due.puts("a"));
    }
}
