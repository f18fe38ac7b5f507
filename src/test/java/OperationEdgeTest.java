/** Terms, the lists of operations, where no other test of edges has them: both sides of each edge. */
public final class OperationEdgeTest extends Edge {
    public static void main(String[] args) {
        sameAsAnyOther();
        less();
        greater();
        fallsAndAsks();
        risesAndAsks();
        bitsThatAreTheSame();
        bitsOfEitherAndOfBoth();
        divisionBy0();
        quotientsAsJavas();
        remaindersAsJavas();
        isIt0();
        charactersModulo256();
        numbersPutOut();
        theStoryEnds();
        newLinesAndNothing();
        Check.end();
    }

    /** "1 x the same as y, or any other of the numbers?" */
    private static void sameAsAnyOther() {
        asks("the same", true, second(1, "ww", 65535, 65535, BY_TRUE), Story::new);
        asks("one less", false, second(1, "ww", 65535, 65534, BY_TRUE), Story::new);
        asks("255 and 65535", false, second(1, "bw", 255, 65535, BY_TRUE), Story::new);
        asks("the third", true, second(1, "bbb", 7, 8, 7, BY_TRUE), Story::new);
        asks("not the third", false, second(1, "bbb", 7, 8, 9, BY_TRUE), Story::new);
        asks("the fourth", true, second(1, "bbbb", 7, 8, 9, 7, BY_TRUE), Story::new);
        asks("not the fourth", false, second(1, "bbbb", 7, 8, 9, 9, BY_TRUE), Story::new);
        asks("the others among them", false, second(1, "bbbb", 7, 8, 8, 8, BY_TRUE), Story::new);
    }

    /** "2 x less than y?" */
    private static void less() {
        int[][] rows = {{1, 2, 1}, {2, 2, 0}, {3, 2, 0}, {65535, 0, 1}, {0, 65535, 0}, {32768, 32767, 1},
            {32767, 32768, 0}, {32768, 32769, 1}, {32768, 32768, 0}, {32766, 32767, 1}};
        for (int[] row : rows) {
            asks(row[0] + " less than " + row[1], row[2] == 1, second(2, "ww", row[0], row[1], BY_TRUE), Story::new);
        }
    }

    /** "3 greater?" */
    private static void greater() {
        int[][] rows = {{2, 1, 1}, {2, 2, 0}, {2, 3, 0}, {0, 65535, 1}, {65535, 0, 0}, {32767, 32768, 1},
            {32768, 32767, 0}, {32769, 32768, 1}, {32768, 32768, 0}, {32767, 32766, 1}};
        for (int[] row : rows) {
            asks(row[0] + " greater than " + row[1], row[2] == 1, second(3, "ww", row[0], row[1], BY_TRUE), Story::new);
        }
    }

    private static void counts(int operation, int before, int y, int after, boolean asked) {
        done(operation + " from " + before + " with " + y, second(operation, "bw", G0, y, BY_TRUE),
                () -> new Story().word(GLOBALS, before), due -> due.global(G0, after).place += asked ? BRANCHED : 0);
    }

    /** "4 variable x falls by 1; less than y?" */
    private static void fallsAndAsks() {
        counts(4, 5, 5, 4, true);
        counts(4, 5, 4, 4, false);
        counts(4, 5, 3, 4, false);
        counts(4, 1, 0, 0, false);
        counts(4, 0, 0, 65535, true);
        counts(4, 0, 65535, 65535, false);
        counts(4, 65535, 65535, 65534, true);
        counts(4, 5, 32768, 4, false);
        counts(4, 32769, 32769, 32768, true);
        counts(4, 32768, 32767, 32767, false);
        counts(4, 32768, 0, 32767, false);
    }

    /** "5 rises by 1; greater than y?" */
    private static void risesAndAsks() {
        counts(5, 5, 5, 6, true);
        counts(5, 5, 6, 6, false);
        counts(5, 5, 7, 6, false);
        counts(5, 65535, 0, 0, false);
        counts(5, 65535, 65535, 0, true);
        counts(5, 65534, 65535, 65535, false);
        counts(5, 65534, 65534, 65535, true);
        counts(5, 5, 32768, 6, true);
        counts(5, 32766, 32766, 32767, true);
        counts(5, 32767, 32768, 32768, false);
        counts(5, 32767, 0, 32768, false);
    }

    /** "7 x & y the same as y?" */
    private static void bitsThatAreTheSame() {
        asks("no bit", true, second(7, "ww", 0, 0, BY_TRUE), Story::new);
        asks("none is asked for", true, second(7, "ww", 65535, 0, BY_TRUE), Story::new);
        asks("all", true, second(7, "ww", 65535, 65535, BY_TRUE), Story::new);
        asks("the highest", true, second(7, "ww", 32768, 32768, BY_TRUE), Story::new);
        asks("the highest is not there", false, second(7, "ww", 32767, 32768, BY_TRUE), Story::new);
        asks("one of two", false, second(7, "ww", 1, 3, BY_TRUE), Story::new);
        asks("two of one", true, second(7, "ww", 3, 1, BY_TRUE), Story::new);
    }

    /** "8 g x | y  9 g x & y" */
    private static void bitsOfEitherAndOfBoth() {
        int[][] rows = {{0, 0}, {0, 65535}, {65535, 0}, {65535, 65535}, {32768, 1}, {0x0F0F, 0x00FF}, {3, 5}};
        for (int[] row : rows) {
            gives(8, row[0], row[1], row[0] | row[1]);
            gives(9, row[0], row[1], row[0] & row[1]);
        }
    }

    /** "by 0: DIVISION" */
    private static void divisionBy0() {
        for (int operation : new int[] {23, 24}) {
            for (int x : new int[] {0, 1, 32768, 65535}) {
                trouble(operation + " of " + x, DIVISION, second(operation, "ww", x, 0, G0), Story::new, NOTHING);
            }
            trouble(operation + " of the stack", DIVISION,
                    () -> withWords(new Story(), 2, second(operation, "vw", TOP, 0, TOP)), due -> due.pop());
            trouble(operation + " to a full stack", DIVISION,
                    () -> withWords(new Story(), 48, second(operation, "bb", 7, 0, TOP)), NOTHING);
        }
        done("x / 1", second(23, "ww", 7, 1, TOP), Story::new, due -> due.push(7));
        done("x % 1", second(24, "ww", 7, 1, TOP), Story::new, due -> due.push(0));
        done("x / -1", second(23, "ww", 7, 65535, TOP), Story::new, due -> due.push(65536 - 7));
        done("x % -1", second(24, "ww", 7, 65535, TOP), Story::new, due -> due.push(0));
        done("x / 256", second(23, "ww", 256, 256, TOP), Story::new, due -> due.push(1));
    }

    private static void gives(int operation, int x, int y, int value) {
        done(x + " and " + y, second(operation, "ww", x, y, TOP), Story::new, due -> due.push(value & 65535));
    }

    /** "x / y .. (as Java's / and %)" */
    private static void quotientsAsJavas() {
        gives(23, 7, 2, 3);
        gives(23, -7, 2, -3);
        gives(23, 7, -2, -3);
        gives(23, -7, -2, 3);
        gives(23, 1, 2, 0);
        gives(23, -1, 2, 0);
        gives(23, -32768, -1, 32768);
        gives(23, -32768, 1, -32768);
        gives(23, 32767, -1, -32767);
        gives(23, -32768, -32768, 1);
        gives(23, 32767, -32768, 0);
    }

    /** "x modulo y (as Java's / and %)" */
    private static void remaindersAsJavas() {
        gives(24, 7, 3, 1);
        gives(24, -7, 3, -1);
        gives(24, 7, -3, 1);
        gives(24, -7, -3, -1);
        gives(24, 6, 3, 0);
        gives(24, -6, 3, 0);
        gives(24, -32768, -1, 0);
        gives(24, -32768, 32767, -1);
        gives(24, 32767, -32768, 32767);
    }

    /** "FIRST: 0 x is 0?" */
    private static void isIt0() {
        asks("0", true, first(0, 0, BY_TRUE), Story::new);
        asks("1", false, first(0, 1, BY_TRUE), Story::new);
        asks("256", false, first(0, 256, BY_TRUE), Story::new);
        asks("32768", false, first(0, 32768, BY_TRUE), Story::new);
        asks("65535", false, first(0, 65535, BY_TRUE), Story::new);
    }

    /** "5 character x modulo 256 is put out" */
    private static void charactersModulo256() {
        int[][] rows = {{0, 0}, {1, 1}, {13, 13}, {65, 65}, {255, 255}, {256, 0}, {257, 1}, {511, 255}, {32768, 0},
            {65535, 255}};
        for (int[] row : rows) {
            done("character " + row[0], many(5, "w", row[0]), Story::new,
                    due -> due.puts(String.valueOf((char) row[1])));
        }
    }

    /** "6 x is put out as a number" */
    private static void numbersPutOut() {
        for (int x : new int[] {0, 1, 9, 10, 11, 99, 100, 101, 999, 1000, 1001, 9999, 10000, 10001, 32766, 32767,
            -1, -9, -10, -99, -100, -1000, -9999, -10000, -32767, -32768}) {
            done("the number " + x, many(6, "w", x), Story::new, due -> due.puts(Integer.toString(x)));
        }
    }

    /** "10 the story ends" */
    private static void theStoryEnds() {
        ends("in the story", 1, () -> withWords(new Story(), 3, Story.END));
        ends("in a routine", 1, () -> withLocals(new Story(), 3, Story.END));
        ends("in the tenth routine", 1, () -> withRoutines(new Story(), 10, Story.END));
        ends("at the last byte", 1, () -> {
            Story story = new Story().word(4, 511).bytes(511, Story.END);
            story.machine.begin();
            return story;
        });
    }

    /** "4 nothing", "11 a new line" */
    private static void newLinesAndNothing() {
        done("nothing", 1, () -> withWords(new Story(), 3, Story.NOTHING), NOTHING);
        done("a new line", 1, () -> withWords(new Story(), 3, Story.NEW_LINE), due -> due.puts("\r"));
    }
}
