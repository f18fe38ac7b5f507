/** Terms, RANDOM: both sides of each edge. */
public final class RandomEdgeTest extends Edge {
    public static void main(String[] args) {
        xAbove0();
        otherwiseItIsMinusX();
        minusXIsTakenModulo1024();
        sIsTakenModulo1024();
        itIsOneMoreThanSModuloX();
        itIs0AtFirst();
        Check.end();
    }

    /** A story that draws for what is in G0, again and again, and gives it to G1. */
    private static Story drawing() {
        return Story.of(231, Story.types("v"), G0, G1, 140, 255, 251);
    }

    private static void draws(Story story, int x, int due) {
        story.word(GLOBALS, x).word(GLOBALS + 2, 4444);
        Check.same("draw for " + x + ": run", story.machine.run(2), 0);
        Check.same("draw for " + x, story.global(G1), due);
    }

    /** "for x above 0 ..; otherwise .. it gives 0" */
    private static void xAbove0() {
        done("1", many(7, "w", 1, TOP), Story::new, due -> due.push(1));
        done("2", many(7, "w", 2, TOP), Story::new, due -> due.push(2));
        done("32767", many(7, "w", 32767, TOP), Story::new, due -> due.push(8));
        done("0", many(7, "w", 0, TOP), Story::new, due -> due.push(0));
        done("-1", many(7, "w", 65535, TOP), Story::new, due -> due.push(0));
        done("-32768", many(7, "w", 32768, TOP), Story::new, due -> due.push(0));
        bad("no number", many(7, "", TOP));
        bad("to a bad variable", many(7, "b", 5, 48));
        trouble("to a full stack", STACK, () -> withWords(new Story(), 48, many(7, "b", 5, TOP)), NOTHING);
    }

    /** "otherwise s becomes -x modulo 1024" */
    private static void otherwiseItIsMinusX() {
        int[] seeds = {0, 1, 2, 78, 1022, 1023};
        for (int seed : seeds) {
            Story story = drawing();
            draws(story, 100, 8);
            draws(story, -seed, 0);
            draws(story, 32767, 1 + (13 * seed + 7) % 1024);
        }
    }

    private static void minusXIsTakenModulo1024() {
        int[][] rows = {{-1023, 1023}, {-1024, 0}, {-1025, 1}, {-2047, 1023}, {-2048, 0}, {-32767, 1023}, {-32768, 0}};
        for (int[] row : rows) {
            Story story = drawing();
            draws(story, row[0], 0);
            draws(story, 32767, 1 + (13 * row[1] + 7) % 1024);
        }
    }

    /** "s becomes (13 s + 7) modulo 1024" */
    private static void sIsTakenModulo1024() {
        Story below = drawing();
        draws(below, -78, 0);
        draws(below, 32767, 1022);
        Story above = drawing();
        draws(above, -79, 0);
        draws(above, 32767, 11);
        Story many = drawing();
        int s = 0;
        for (int i = 0; i < 90; i++) {
            s = (13 * s + 7) % 1024;
            draws(many, 32767, 1 + s);
        }
    }

    /** "it gives 1 + s modulo x" */
    private static void itIsOneMoreThanSModuloX() {
        int[][] rows = {{1, 1}, {2, 2}, {6, 2}, {7, 1}, {8, 8}, {9, 8}};
        for (int[] row : rows) {
            draws(drawing(), row[0], row[1]);
        }
        Story highest = drawing();
        draws(highest, -472, 0);
        draws(highest, 1023, 1 + (13 * 472 + 7) % 1024 % 1023);
    }

    /** "a number s, 0 at first": and when a story is begun */
    private static void itIs0AtFirst() {
        Story story = drawing();
        draws(story, 1000, 8);
        draws(story, 1000, 99);
        story.machine.begin();
        draws(story, 1000, 8);
        draws(story, -5, 0);
        story.machine.begin();
        draws(story, 1000, 8);
    }
}
