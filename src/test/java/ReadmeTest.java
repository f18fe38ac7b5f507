import java.io.IOException;
import java.nio.file.Files;
import java.nio.file.Path;
import java.util.ArrayList;
import java.util.Collections;
import java.util.HashSet;
import java.util.List;
import java.util.Set;
import java.util.regex.Matcher;
import java.util.regex.Pattern;

/** The calls that README.md shows stand here too, and answer what README.md tells behind them. */
public final class ReadmeTest {
    private static final Path README = Path.of("README.md");
    private static final Path THIS_TEST = Path.of("src/test/java/ReadmeTest.java");
    /** In README.md: a variable, the call that it becomes, and the answer that is told. */
    private static final Pattern TOLD = Pattern.compile("int (\\w+) = .*; +// (-?\\d+)\\b.*");

    private static final List<String> lines = new ArrayList<>();
    private static final Set<String> compared = new HashSet<>();

    public static void main(String[] args) throws IOException {
        lines.addAll(Files.readAllLines(README));
        adder();
        reader();
        caller();
        whatIsRefused();
        theCallsShownStandHere();
        everyAnswerToldIsCompared();
        Check.end();
    }

    private static void adder() {
        StoryMachine adder = new StoryMachine();
        adder.poke(4, 32, 2);
        adder.poke(12, 512, 2);
        adder.poke(32, 0x14050700E6BF00BAL, 8);
        adder.begin();
        int start = adder.place();
        int first = adder.run(1);
        int sum = adder.stack(0);
        int rest = adder.run(300);
        int done = adder.steps();
        int behind = adder.place();
        int characters = adder.output(-1);
        int latest = adder.output(0);
        int before = adder.output(1);

        due("start", start, 32);
        due("first", first, 0);
        due("sum", sum, 12);
        due("rest", rest, 5);
        due("done", done, 3);
        due("behind", behind, 40);
        due("characters", characters, 2);
        due("latest", latest, '2');
        due("before", before, '1');
    }

    private static void reader() {
        StoryMachine reader = new StoryMachine();
        reader.poke(4, 32, 2);
        reader.poke(6, 300, 2);
        reader.poke(12, 512, 2);
        reader.poke(300, 0x012C050001328594L, 8);
        reader.poke(308, 0xA500, 2);
        reader.poke(150, 20, 1);
        reader.poke(180, 5, 1);
        reader.poke(32, 0xE40F009600B4BAL, 7);
        reader.begin();
        int waits = reader.run(300);
        reader.type(0x476F2C6EL, 4);
        reader.type(0x6F77L, 2);
        reader.enter();
        int ends = reader.run(300);
        int letter = reader.peek(151);
        int words = reader.peek(181);
        int entry = 256 * reader.peek(182) + reader.peek(183);
        int length = reader.peek(184);
        int none = 256 * reader.peek(190) + reader.peek(191);
        int from = reader.peek(193);

        due("waits", waits, 4);
        due("ends", ends, 5);
        due("letter", letter, 'g');
        due("words", words, 3);
        due("entry", entry, 305);
        due("length", length, 2);
        due("none", none, 0);
        due("from", from, 4);
    }

    private static void caller() {
        StoryMachine caller = new StoryMachine();
        caller.poke(4, 32, 2);
        caller.poke(10, 336, 2);
        caller.poke(12, 512, 2);
        caller.poke(32, 0xE01F00320710BAL, 7);
        caller.poke(100, 0x0200000009740102L, 8);
        caller.poke(108, 0x00B8, 2);
        caller.begin();
        int call = caller.run(1);
        int open = caller.routines();
        int locals = caller.local(0);
        int given = caller.local(1);
        int own = caller.local(2);
        int end = caller.run(300);
        int left = caller.routines();
        int global = 256 * caller.peek(336) + caller.peek(337);

        due("call", call, 0);
        due("open", open, 1);
        due("locals", locals, 2);
        due("given", given, 7);
        due("own", own, 9);
        due("end", end, 5);
        due("left", left, 0);
        due("global", global, 16);
    }

    /** The table of calls that are not allowed, row by row. */
    private static void whatIsRefused() {
        StoryMachine machine = new StoryMachine();
        Check.refused("poke n", IllegalArgumentException.class, () -> machine.poke(0, 0, 9));
        Check.refused("poke place", IllegalArgumentException.class, () -> machine.poke(511, 0, 2));
        Check.refused("peek", IllegalArgumentException.class, () -> machine.peek(512));
        Check.refused("type n", IllegalArgumentException.class, () -> machine.type('a', 0));
        Check.refused("type character", IllegalArgumentException.class, () -> machine.type(127, 1));
        for (int i = 0; i < 24; i++) {
            machine.type('a', 1);
        }
        Check.refused("type more", IllegalStateException.class, () -> machine.type('a', 1));
        Check.refused("run steps", IllegalArgumentException.class, () -> machine.run(301));
        Check.refused("run before begin", IllegalStateException.class, () -> machine.run(300));
        Check.refused("output none", IndexOutOfBoundsException.class, () -> machine.output(0));
        Check.refused("stack none", IndexOutOfBoundsException.class, () -> machine.stack(0));
        Check.refused("local", IndexOutOfBoundsException.class, () -> machine.local(16));
        machine.poke(4, 512, 2);
        Check.refused("begin outside", IllegalStateException.class, machine::begin);
        machine.poke(4, 32, 2);
        machine.poke(32, 0xBA, 1);
        machine.begin();
        Check.same("run to the end", machine.run(300), 5);
        Check.refused("run after the end", IllegalStateException.class, () -> machine.run(300));
        machine.begin();
        Check.same("run anew", machine.run(300), 5);
    }

    /** The answer is the one that is due, and README.md tells the same one. */
    private static void due(String variable, int got, int answer) {
        Check.same("README.md: " + variable, got, answer);
        int told = 0;
        for (String line : lines) {
            Matcher found = TOLD.matcher(line);
            if (found.matches() && found.group(1).equals(variable)) {
                Check.same("README.md tells of " + variable, Integer.parseInt(found.group(2)), answer);
                told++;
            }
        }
        Check.same("README.md tells the answer of " + variable + " so many times", told, 1);
        compared.add(variable);
    }

    private static void theCallsShownStandHere() throws IOException {
        List<String> here = statements(Files.readAllLines(THIS_TEST));
        int blocks = 0;
        for (List<String> block : blocksOfJava()) {
            List<String> shown = statements(block);
            Check.isTrue("README.md shows what is not in ReadmeTest: " + shown,
                    Collections.indexOfSubList(here, shown) >= 0);
            blocks++;
        }
        Check.same("examples in README.md", blocks, 3);
    }

    private static void everyAnswerToldIsCompared() {
        for (List<String> block : blocksOfJava()) {
            for (String line : block) {
                if (line.startsWith("int ")) {
                    Matcher found = TOLD.matcher(line);
                    Check.isTrue("compared: " + line, found.matches() && compared.contains(found.group(1)));
                }
            }
        }
    }

    private static List<List<String>> blocksOfJava() {
        List<List<String>> blocks = new ArrayList<>();
        List<String> block = null;
        for (String line : lines) {
            if (line.equals("```java")) {
                block = new ArrayList<>();
                blocks.add(block);
            } else if (line.startsWith("```")) {
                block = null;
            } else if (block != null) {
                block.add(line);
            }
        }
        return blocks;
    }

    /** The lines without what is told beside them, and without those that are empty then. */
    private static List<String> statements(List<String> source) {
        List<String> kept = new ArrayList<>();
        for (String line : source) {
            String statement = line.replaceFirst("//.*", "").trim();
            if (!statement.isEmpty()) {
                kept.add(statement);
            }
        }
        return kept;
    }
}
