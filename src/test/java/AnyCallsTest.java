import java.util.Random;

/** Any calls with any arguments in any state end, and throw only what the document names. */
public final class AnyCallsTest {
    private static final int OBJECTS = 3000;
    private static final int[] STARTS = {1, 2, 4, 13, 14, 20, 97, 109, 116, 140, 144, 153, 154, 160, 166, 178, 181,
        182, 184, 193, 206, 210, 212, 224, 225, 226, 227, 228, 229, 230, 231, 232, 233};

    public static void main(String[] args) {
        int[] answers = new int[6];
        for (int seed = 0; seed < OBJECTS; seed++) {
            Random random = new Random(seed);
            StoryMachine x = filled(random);
            for (int call = 0; call < 60; call++) {
                answers[anyCall(x, random)]++;
            }
            lookedAt(x, "seed " + seed);
        }
        for (int answer = 0; answer < answers.length; answer++) {
            Check.isTrue("the calls come to the answer " + answer, answers[answer] > 0);
        }
        Check.end();
    }

    private static StoryMachine filled(Random random) {
        StoryMachine x = new StoryMachine();
        for (int place = 0; place < 512; place += 8) {
            long bytes = 0;
            for (int i = 0; i < 8; i++) {
                int kind = random.nextInt(4);
                int value = kind == 0 ? random.nextInt(256) : kind == 1 ? random.nextInt(24)
                        : kind == 2 ? STARTS[random.nextInt(STARTS.length)] : 0;
                bytes = bytes << 8 | value;
            }
            x.poke(place, bytes, 8);
        }
        for (int place = 4; place <= 12; place += 2) {
            x.poke(place, random.nextInt(place == 12 ? 700 : 520), 2);
        }
        return x;
    }

    private static int anyCall(StoryMachine x, Random random) {
        int kind = random.nextInt(8);
        try {
            if (kind == 0) {
                x.begin();
            } else if (kind == 1) {
                x.enter();
            } else if (kind == 2) {
                x.type(0x6120624363204469L >> random.nextInt(12), random.nextInt(10));
            } else if (kind == 3) {
                x.poke(random.nextInt(600) - 40, random.nextLong(), random.nextInt(10));
            } else {
                return x.run(1 + random.nextInt(300));
            }
        } catch (IllegalArgumentException e) {
            Check.isTrue("a wrong argument", e.getClass() == IllegalArgumentException.class && kind >= 2);
        } catch (IllegalStateException e) {
            Check.isTrue("a wrong state", kind != 1 && kind != 3);
        }
        return 0;
    }

    private static void lookedAt(StoryMachine x, String what) {
        int height = x.stack(-1);
        Check.isTrue(what + ": height", height >= 0 && height <= 48);
        for (int k = 0; k < height; k++) {
            isIn(what + ": word", x.stack(k), 65535);
        }
        int kept = Math.min(64, x.output(-1));
        for (int k = 0; k < kept; k++) {
            isIn(what + ": character", x.output(k), 255);
        }
        isIn(what + ": locals", x.local(0), 15);
        for (int k = 1; k <= 15; k++) {
            isIn(what + ": local", x.local(k), 65535);
        }
        isIn(what + ": routines", x.routines(), 10);
        for (int place = 0; place < 512; place += 3) {
            isIn(what + ": byte", x.peek(place), 255);
        }
    }

    private static void isIn(String what, int answer, int highest) {
        Check.isTrue(what + " " + answer, answer >= 0 && answer <= highest);
    }
}
