/** Terms: text. */
public final class TextTest {
    public static void main(String[] args) {
        due("abz ", 6, 7, 31, 0);
        due("AZ", 4, 6, 4, 31);
        due("aBc", 6, 4, 7, 8);
        due("nothing", 1, 19, 2, 20, 3, 25, 13, 14, 19, 12);
        due("0123456789", 5, 8, 5, 9, 5, 10, 5, 11, 5, 12, 5, 13, 5, 14, 5, 15, 5, 16, 5, 17);
        due(".,!?_#'\"/\\-:()", 5, 18, 5, 19, 5, 20, 5, 21, 5, 22, 5, 23, 5, 24, 5, 25, 5, 26, 5, 27, 5, 28,
                5, 29, 5, 30, 5, 31);
        due("\ra", 5, 7, 6);
        due("@a", 5, 6, 2, 0, 6);
        due("\u00ffa", 5, 6, 7, 31, 6);
        due("\u00ffa", 5, 6, 15, 31, 6);
        due("\u0000", 5, 6, 8, 0);
        due("\u0084", 5, 6, 4, 4, 5, 5);
        due(" a", 4, 0, 6);
        due("a", 4, 1, 6);
        due("a", 5, 3, 6);
        due("1a", 4, 5, 9, 6);
        due("Ba", 5, 4, 7, 6);
        due("Ba", 4, 4, 7, 6);
        due("a", 6, 5, 6);
        due("abc", 6, 7, 8, 5, 6, 2);
        due("a", 6, 4);
        due("", 5, 5, 5);
        due("   ", 0, 0, 0);
        due("zzz a", 31, 31, 31, 0, 6, 5);
        aShiftIsOfOneTextAlone();
        whereTextStands();
        whatWasPutOutStays();
        Check.end();
    }

    private static void due(String text, int... letters) {
        Story story = new Story();
        int[] packed = Story.text(letters);
        story.bytes(Story.CODE + 1, packed).bytes(Story.CODE + 1 + packed.length, Story.END);
        story.begin(Story.PUT_TEXT);
        Check.same("end of " + text, story.machine.run(2), 5);
        Check.same("place behind " + text, story.machine.place(), Story.CODE + 2 + packed.length);
        Check.isTrue("'" + story.text() + "' is put out for '" + text + "'", story.text().equals(text));
    }

    private static void aShiftIsOfOneTextAlone() {
        Story story = Story.of(Story.PUT_TEXT, 128 + 24, 6 * 32 + 4, Story.PUT_TEXT, 128 + 24, 6 * 32 + 5,
                Story.PUT_TEXT, 128 + 24, 5 * 32 + 6, Story.PUT_TEXT, 128 + 24, 5 * 32 + 5, Story.END);
        story.machine.run(9);
        Check.isTrue("put out: " + story.text(), story.text().equals("aaaaaa"));
    }

    private static void whereTextStands() {
        int[] packed = Story.text(13, 14);
        Story at = new Story().bytes(201, packed).begin(135, 0, 201, Story.END);
        Check.same("at x", at.machine.run(2), 5);
        Check.isTrue("hi", at.text().equals("hi"));
        Story twice = new Story().bytes(400, packed).begin(157, 200, Story.END);
        Check.same("at 2 x", twice.machine.run(2), 5);
        Check.isTrue("hi", twice.text().equals("hi"));
        Story last = new Story().bytes(510, packed).begin(141, 0, 255, Story.END);
        Check.same("the last word", last.machine.run(2), 5);
        Check.isTrue("hi", last.text().equals("hi"));
        Check.same("half a word", Story.of(135, 1, 255, Story.END).bytes(511, 255).machine.run(1), 1);
        Check.same("no word", Story.of(135, 2, 0, Story.END).machine.run(1), 1);
        Story returns = new Story().bytes(Story.ROUTINE, 0, Story.PUT_TEXT_RETURN).bytes(Story.ROUTINE + 2, packed);
        returns.begin(224, 63, 0, Story.ROUTINE / 2, Story.G0, Story.END);
        Check.same("text, then a return", returns.machine.run(3), 5);
        Check.isTrue("hi and a new line", returns.text().equals("hi\r"));
        Check.same("1", returns.global(Story.G0), 1);
    }

    private static void whatWasPutOutStays() {
        Story story = Story.of(135, 1, 252).word(508, 6 << 10 | 7 << 5 | 8).word(510, 9 << 10 | 10 << 5 | 11);
        Check.same("text that has no end", story.machine.run(1), 1);
        Check.isTrue("put out: " + story.text(), story.text().equals("abcdef"));
        Check.same("place", story.machine.place(), Story.CODE);
        Story returns = new Story().bytes(Story.CODE + 1, Story.text(13, 14)).begin(Story.PUT_TEXT_RETURN);
        Check.same("the story itself returns", returns.machine.run(1), 1);
        Check.isTrue("put out: " + returns.text(), returns.text().equals("hi\r"));
    }
}
