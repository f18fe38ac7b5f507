/** Terms, AN INSTRUCTION: its forms, numbers and branches, both sides of each edge. */
public final class FormEdgeTest extends Edge {
    public static void main(String[] args) {
        below128TwoNumbers();
        from128OneNumberOrNone();
        from192AByteOfTypes();
        below224TheSecondListThenTheManyList();
        oneThatIsNotThereAndAllOthers();
        numbersAreReadInOrder();
        operationsThatAreNotInTheSecondList();
        operationsThatAreNotInTheFirstList();
        operationsThatAreNotInListNone();
        operationsThatAreNotInTheManyList();
        tooFewNumbersOfTheSecondList();
        tooFewNumbersOfTheManyList();
        tooManyNumbersAreOfNoMatter();
        otherBytesAreReadBeforeItIsDone();
        instructionsThatAreNotAllThere();
        offsetsOfSixBits();
        offsetsOf14Bits();
        itBranchesByTrueOrFalse();
        withOffset0Or1ItReturns();
        Check.end();
    }

    /** The code stands so that its last byte is the last one of the memory. */
    private static Story atTheEnd(int... code) {
        int place = 512 - code.length;
        Story story = new Story().word(4, place).bytes(place, code);
        story.machine.begin();
        return story;
    }

    private static Story globals() {
        return new Story().word(GLOBALS, 1000).word(GLOBALS + 2, 300);
    }

    /** "b below 128: two numbers; bit 6 for the first, bit 5 for the second: 0 a byte follows, 1 a variable" */
    private static void below128TwoNumbers() {
        done("20, bytes", new int[] {20, 16, 17, TOP}, FormEdgeTest::globals, due -> due.push(33));
        done("52, a byte and a variable", new int[] {52, 16, 17, TOP}, FormEdgeTest::globals, due -> due.push(316));
        done("84, a variable and a byte", new int[] {84, 16, 17, TOP}, FormEdgeTest::globals, due -> due.push(1017));
        done("116, variables", new int[] {116, 16, 17, TOP}, FormEdgeTest::globals, due -> due.push(1300));
        done("bytes have no sign", new int[] {20, 255, 255, TOP}, Story::new, due -> due.push(510));
        bad("127, an operation that is not there", new int[] {127, 16, 17, TOP});
        trouble("127, its numbers are read", BAD, () -> withWords(new Story(), 3, 127, TOP, TOP, G0),
                due -> due.pop().pop());
    }

    /** "b 128 .. 191: bits 4 and 5: 0 a word, 1 a byte, 2 a variable: one number ..; 3: no number" */
    private static void from128OneNumberOrNone() {
        done("143, a word", new int[] {143, 1, 2, TOP}, FormEdgeTest::globals, due -> due.push(65535 - 258));
        done("159, a byte", new int[] {159, 16, TOP}, FormEdgeTest::globals, due -> due.push(65535 - 16));
        done("175, a variable", new int[] {175, 16, TOP}, FormEdgeTest::globals, due -> due.push(65535 - 1000));
        done("128, is the word 0", new int[] {128, 0, 0, BY_TRUE}, Story::new, due -> due.place += BRANCHED);
        done("128, is the word 256 0", new int[] {128, 1, 0, BY_TRUE}, Story::new, NOTHING);
        done("180, nothing", new int[] {180}, Story::new, NOTHING);
        bad("191, an operation that is not there", new int[] {191, 16, 17, TOP});
        bad("191 has no byte of types", new int[] {191, Story.types("v"), TOP});
        trouble("192 has one", STACK, new int[] {192, Story.types("v"), TOP}, Story::new, NOTHING);
    }

    /** "b from 192: a byte of types, two bits each from the highest on (0, 1, 2 as before ..)" */
    private static void from192AByteOfTypes() {
        done("a word and a word", second(20, "ww", 258, 772, TOP), FormEdgeTest::globals, due -> due.push(1030));
        done("a byte and a word", second(20, "bw", 16, 772, TOP), FormEdgeTest::globals, due -> due.push(788));
        done("a variable and a word", second(20, "vw", 16, 772, TOP), FormEdgeTest::globals, due -> due.push(1772));
        done("a word and a byte", second(20, "wb", 258, 16, TOP), FormEdgeTest::globals, due -> due.push(274));
        done("a word and a variable", second(20, "wv", 258, 16, TOP), FormEdgeTest::globals, due -> due.push(1258));
        bad("192, an operation that is not there", second(0, "bb", 1, 1, TOP));
    }

    /** "below 224 operation b modulo 32 of the second list, otherwise of the MANY list" */
    private static void below224TheSecondListThenTheManyList() {
        bad("223, an operation that is not there", typed(223, "bb", 1, 1, TOP));
        done("216, the last of the second list", typed(216, "bb", 7, 4, TOP), Story::new, due -> due.push(3));
        done("224, the first of the many list", typed(224, "bb", 0, 4, TOP), Story::new, due -> due.push(0));
        done("233, the last of the many list", 3, () -> withWords(new Story(), 1, typed(233, "b", G0)),
                due -> due.pop().global(G0, 1));
        bad("234, an operation that is not there", typed(234, "bbbb", 1, 1, 1, 1, TOP));
        bad("255, an operation that is not there", typed(255, "bbbb", 1, 1, 1, 1, TOP));
    }

    /** "3: this and all others are not there" */
    private static void oneThatIsNotThereAndAllOthers() {
        int same = 193;
        done("two, then none", new int[] {same, 0x5F, 9, 7, BY_TRUE}, Story::new, NOTHING);
        done("two, then none, then types", new int[] {same, 0x5D, 9, 7, BY_TRUE}, Story::new, NOTHING);
        done("two, then none, then a word", new int[] {same, 0x5C, 9, 7, BY_TRUE}, Story::new, NOTHING);
        done("three, then none", new int[] {same, 0x57, 9, 7, 9, BY_TRUE}, Story::new, due -> due.place += BRANCHED);
        done("four", new int[] {same, 0x55, 9, 7, 8, 9, BY_TRUE}, Story::new, due -> due.place += BRANCHED);
        bad("one, then none, then types", new int[] {same, 0x75, 9, 9, 9, BY_TRUE});
        bad("none, then types", new int[] {same, 0xD5, 9, 9, 9, BY_TRUE});
    }

    /** "Numbers are read in order (a variable when its turn comes)" */
    private static void numbersAreReadInOrder() {
        done("the top, then the next", 4, () -> withWords(new Story(), 2, 21 + 96, TOP, TOP, G0),
                due -> due.pop().pop().global(G0, 1));
        done("a bad one behind is not read", new int[] {193, 0x5F, 9, 9, 64 + 2}, Story::new, NOTHING);
        trouble("empty, then bad", STACK, new int[] {116, TOP, 48, G0}, Story::new, NOTHING);
        trouble("bad, then empty", BAD, () -> withWords(new Story(), 1, 116, 48, TOP, G0), NOTHING);
        trouble("the top, then bad", BAD, () -> withWords(new Story(), 1, 116, TOP, 48, G0), due -> due.pop());
        trouble("four of three words", STACK, () -> withWords(new Story(), 3, typed(193, "vvvv", 0, 0, 0, 0, 64 + 2)),
                due -> due.pop().pop().pop());
    }

    /** "then an operation that is not in its list .. is bad": SECOND 1 to 24 */
    private static void operationsThatAreNotInTheSecondList() {
        for (int operation : new int[] {0, 25, 26, 27, 28, 29, 30, 31}) {
            for (int form : new int[] {0, 32, 64, 96}) {
                bad("SECOND " + operation + " in form " + form, new int[] {form + operation, 16, 17, TOP, 64 + 2});
            }
            bad("SECOND " + operation + " with types", second(operation, "bb", 16, 17, TOP, 64 + 2));
            trouble("SECOND " + operation + ", numbers are read", BAD,
                    () -> withWords(new Story(), 3, second(operation, "vv", TOP, TOP, G0)), due -> due.pop().pop());
            trouble("SECOND " + operation + ", an empty stack", STACK, second(operation, "vv", TOP, TOP, G0), Story::new,
                    NOTHING);
        }
        done("SECOND 1", new int[] {1, 7, 8, BY_TRUE}, Story::new, NOTHING);
        done("SECOND 24", new int[] {24, 7, 4, TOP}, Story::new, due -> due.push(3));
    }

    /** "then an operation that is not in its list .. is bad": FIRST 0 to 7, 9 to 15 */
    private static void operationsThatAreNotInTheFirstList() {
        bad("FIRST 8, a word", new int[] {136, 0, 16, TOP, 64 + 2});
        bad("FIRST 8, a byte", new int[] {152, 16, TOP, 64 + 2});
        bad("FIRST 8, a variable", new int[] {168, 16, TOP, 64 + 2});
        trouble("FIRST 8, its number is read", BAD, () -> withWords(new Story(), 3, 168, TOP, G0), due -> due.pop());
        trouble("FIRST 8, an empty stack", STACK, new int[] {168, TOP, G0}, Story::new, NOTHING);
        done("FIRST 7", first(7, 400), () -> new Story().bytes(400, Story.text(6)), due -> due.puts("a"));
        done("FIRST 9", first(9, 1), Story::new, NOTHING);
    }

    /** "then an operation that is not in its list .. is bad": NONE 0 to 6, 8 to 11 */
    private static void operationsThatAreNotInListNone() {
        for (int operation : new int[] {7, 12, 13, 14, 15}) {
            trouble("NONE " + operation, BAD, () -> withWords(new Story(), 3, none(operation, TOP, 64 + 2)), NOTHING);
        }
        done("NONE 6", none(6, 64 + 20), Story::new, due -> due.place += BRANCHED);
        trouble("NONE 8", BAD, () -> withWords(new Story(), 1, none(8)), due -> due.pop());
        done("NONE 11", none(11), Story::new, due -> due.puts("\r"));
    }

    /** "then an operation that is not in its list .. is bad": MANY 0 to 9 */
    private static void operationsThatAreNotInTheManyList() {
        for (int operation = 10; operation <= 31; operation++) {
            int[] code = many(operation, "bbbb", 16, 17, 18, 19, TOP, 64 + 2);
            bad("MANY " + operation, code);
            int[] variables = many(operation, "vv", TOP, TOP, G0);
            trouble("MANY " + operation + ", numbers are read", BAD, () -> withWords(new Story(), 3, variables),
                    due -> due.pop().pop());
        }
    }

    /** "or has too few numbers, is bad": SECOND needs two */
    private static void tooFewNumbersOfTheSecondList() {
        for (int operation = 1; operation <= 24; operation++) {
            bad("SECOND " + operation + ", none", second(operation, "", G0, 64 + 2));
            bad("SECOND " + operation + ", one", second(operation, "b", 16, G0, 64 + 2));
            int[] code = second(operation, "v", TOP, G0, 64 + 2);
            trouble("SECOND " + operation + ", one of the stack", BAD, () -> withWords(new Story(), 2, code),
                    due -> due.pop());
        }
    }

    /** "or has too few numbers, is bad": MANY needs one, two (READ) or three (1, 2, 3) */
    private static void tooFewNumbersOfTheManyList() {
        int[] needed = {1, 3, 3, 3, 2, 1, 1, 1, 1, 1};
        String kinds = "bbb";
        for (int operation = 0; operation < needed.length; operation++) {
            for (int numbers = 0; numbers < needed[operation]; numbers++) {
                int[] code = operation == 3 ? many(3, kinds.substring(0, numbers), 1, 5, 0, 0)
                        : many(operation, kinds.substring(0, numbers), 200, 0, 0, 0);
                trouble("MANY " + operation + " with " + numbers, BAD, () -> property5().begin(code).line("a"), NOTHING);
            }
        }
        done("MANY 0 with one", many(0, "b", 0, G1), () -> new Story().word(GLOBALS + 2, 9), due -> due.global(G1, 0));
        done("MANY 1 with three", many(1, "bbb", 200, 1, 7), Story::new, due -> due.word(202, 7));
        done("MANY 2 with three", many(2, "bbb", 200, 1, 7), Story::new, due -> due.bytes(201, 7));
        done("MANY 3 with three", many(3, "bbb", 1, 5, 7), FormEdgeTest::property5, due -> due.bytes(FREE + 2, 7));
        done("MANY 4 with two", 4, () -> new Story().begin(many(4, "bb", 200, 220)).line("a"), NOTHING);
        done("MANY 5 with one", many(5, "b", 65), Story::new, due -> due.puts("A"));
        done("MANY 6 with one", many(6, "b", 65), Story::new, due -> due.puts("65"));
        done("MANY 7 with one", many(7, "b", 200, TOP), Story::new, due -> due.push(8));
        done("MANY 8 with one", many(8, "b", 65), Story::new, due -> due.push(65));
        done("MANY 9 with one", 3, () -> withWords(new Story(), 1, many(9, "b", G0)), due -> due.pop().global(G0, 1));
    }

    /** Object 1 has the property 5, a byte. */
    private static Story property5() {
        return new Story().word(Story.OBJECTS + 21, FREE).bytes(FREE, 0, 5, 1, 0);
    }

    /** "(what it has too many is of no matter)" */
    private static void tooManyNumbersAreOfNoMatter() {
        done("SECOND 20 with three", second(20, "bbb", 1, 2, 3, TOP), Story::new, due -> due.push(3));
        done("SECOND 20 with four", second(20, "bbbb", 1, 2, 3, 4, TOP), Story::new, due -> due.push(3));
        done("SECOND 2 with four", second(2, "bbbb", 1, 2, 0, 0, BY_TRUE), Story::new, due -> due.place += BRANCHED);
        done("SECOND 13 with three", second(13, "bbb", G0, 2, 3), Story::new, due -> due.global(G0, 2));
        done("MANY 1 with four", many(1, "bbbb", 200, 1, 7, 9), Story::new, due -> due.word(202, 7));
        done("MANY 5 with four", many(5, "bbbb", 65, 66, 67, 68), Story::new, due -> due.puts("A"));
        done("MANY 8 with four", many(8, "bbbb", 65, 66, 67, 68), Story::new, due -> due.push(65));
        done("they are read all the same", 5, () -> withWords(new Story(), 2, many(5, "bvv", 65, TOP, TOP)),
                due -> due.pop().pop().puts("A"));
        trouble("and may be in trouble", STACK, () -> withWords(new Story(), 1, many(5, "bvv", 65, TOP, TOP)),
                due -> due.pop());
    }

    /** "then the other bytes are read, then it is done" */
    private static void otherBytesAreReadBeforeItIsDone() {
        trouble("no place for what it gives: no division", BAD, () -> atTheEnd(23, 1, 0), NOTHING);
        trouble("a bad place for what it gives: division", DIVISION, new int[] {23, 1, 0, 48}, Story::new, NOTHING);
        trouble("no branch: nothing rises", BAD, () -> atTheEnd(5, G0, 0), NOTHING);
        trouble("half a branch: nothing rises", BAD, () -> atTheEnd(5, G0, 0, 128), NOTHING);
        done("a branch: it rises", 4, () -> atTheEnd(5, G0, 9, BY_TRUE), due -> due.global(G0, 1));
        trouble("no place for what it gives: nothing is called", BAD, () -> atTheEnd(224, 127, ROUTINE / 2), NOTHING);
        trouble("no branch: nothing is put aside", BAD, () -> atTheEnd(Story.SAVE), NOTHING);
        trouble("a child that is not given", BAD, () -> atTheEnd(146, 1, G0), NOTHING);
    }

    /** "To read a byte or word that is not all there .. is BAD": an instruction's; the whole one is done */
    private static void instructionsThatAreNotAllThere() {
        int[][] whole = {
            {20, 1, 2, G0}, {1, 1, 1, 64 + 2}, {1, 1, 1, 0, 2}, {143, 1, 1, G0}, {159, 1, G0}, {175, G0, G0},
            {225, Story.types("wbw"), 0, 200, 0, 0, 0}, {193, Story.types("bbbb"), 1, 1, 1, 1, 64 + 2},
            {146, 1, G0, 0, 2}, {180}, {229, 127, 65}, {231, 127, 1, G0}};
        for (int[] code : whole) {
            Check.same("the whole one", atTheEnd(code).machine.run(1), 0);
            for (int length = 1; length < code.length; length++) {
                int[] part = new int[length];
                System.arraycopy(code, 0, part, 0, length);
                trouble(length + " bytes of operation byte " + code[0], BAD, () -> atTheEnd(part), NOTHING);
            }
        }
        trouble("no byte", BAD, () -> {
            Story story = atTheEnd(180);
            story.machine.run(1);
            return story;
        }, NOTHING);
    }

    private static void branches(String what, int by, int... branch) {
        int[] code = join(new int[] {144, 0}, branch);
        done(what, code, Story::new, due -> due.place += by);
    }

    /** "with bit 6 its lowest six bits are the OFFSET": "to the byte behind the instruction, plus offset, less 2" */
    private static void offsetsOfSixBits() {
        branches("2", 0, 192 + 2);
        branches("3", 1, 192 + 3);
        branches("31", 29, 192 + 31);
        branches("32", 30, 192 + 32);
        branches("63", 61, 192 + 63);
    }

    /** "otherwise these and the next byte, as a number of 14 bits, -8192 .. 8191" */
    private static void offsetsOf14Bits() {
        branches("2", 0, 128, 2);
        branches("3", 1, 128, 3);
        branches("255", 253, 128, 255);
        branches("256", 254, 128 + 1, 0);
        branches("8191", 8189, 128 + 31, 255);
        branches("-8192", -8194, 128 + 32, 0);
        branches("-8191", -8193, 128 + 32, 1);
        branches("-1", -3, 128 + 63, 255);
        branches("-256", -258, 128 + 63, 0);
    }

    /** "It branches when what is asked is (bit 7) true or (0) false" */
    private static void itBranchesByTrueOrFalse() {
        done("true by true", new int[] {144, 0, 192 + 20}, Story::new, due -> due.place += 18);
        done("false by true", new int[] {144, 1, 192 + 20}, Story::new, NOTHING);
        done("true by false", new int[] {144, 0, 64 + 20}, Story::new, NOTHING);
        done("false by false", new int[] {144, 1, 64 + 20}, Story::new, due -> due.place += 18);
        done("true by true, long", new int[] {144, 0, 129, 0}, Story::new, due -> due.place += 254);
        done("false by true, long", new int[] {144, 1, 129, 0}, Story::new, NOTHING);
        done("true by false, long", new int[] {144, 0, 1, 0}, Story::new, NOTHING);
        done("false by false, long", new int[] {144, 1, 1, 0}, Story::new, due -> due.place += 254);
    }

    /** "with the offset 0 or 1 it RETURNS that instead" */
    private static void withOffset0Or1ItReturns() {
        int[][] branches = {{192, 0}, {193, 1}, {128, 0}, {128, 1}};
        for (int[] branch : branches) {
            int value = branch[1];
            int[] code = branch[0] >= 192 ? new int[] {144, 0, branch[0]} : new int[] {144, 0, branch[0], branch[1]};
            done("offset " + value, 0, () -> withRoutines(new Story().word(GLOBALS + 2, 9), 2, code), due -> {
                due.global(G1, value).routines = 1;
                due.place = ROUTINE + 5;
            });
            int[] not = code.clone();
            not[1] = 1;
            done("no branch with offset " + value, not.length,
                    () -> withRoutines(new Story().word(GLOBALS + 2, 9), 2, not), NOTHING);
            bad("the story itself with offset " + value, code);
        }
        done("offset 2 does not return", 3, () -> withRoutines(new Story(), 2, 144, 0, 192 + 2), NOTHING);
        done("offset -1 does not return", 4, () -> withRoutines(new Story(), 2, 144, 0, 128 + 63, 255),
                due -> due.place -= 3);
        done("offset 256 does not return 0", 4, () -> withRoutines(new Story(), 2, 144, 0, 128 + 1, 0),
                due -> due.place += 254);
        done("offset -8192 does not return 0", 4, () -> withRoutines(new Story(), 2, 144, 0, 128 + 32, 0),
                due -> due.place -= 8194);
    }
}
