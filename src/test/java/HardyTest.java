import java.util.Random;

/** Any calls in any order: nothing is thrown but what the document names, and the same calls answer the same. */
public final class HardyTest {
    private static final int[] EDGES = {-1, 8, 9, 20, 21, 64, 99, 100, 120, Integer.MIN_VALUE, Integer.MAX_VALUE};

    public static void main(String[] args) {
        for (int seed = 0; seed < 400; seed++) {
            StringBuilder first = new StringBuilder();
            StringBuilder second = new StringBuilder();
            run(seed, first);
            run(seed, second);
            Check.dueText("run " + seed + " again", second.toString(), first.toString());
        }
        Check.end();
    }

    private static void run(int seed, StringBuilder answers) {
        Random random = new Random(seed);
        BarrierLights x = new BarrierLights();
        for (int phase = 0; phase < 8; phase++) {
            int[] row = {1 + random.nextInt(4), random.nextInt(4), 6, 3, random.nextInt(3), 2, 2, random.nextInt(4)};
            Check.write(x, 0, phase, row);
        }
        answers.append(Check.enact(x, 0));
        for (int i = 0; i < 130; i++) {
            answers.append(' ').append(call(x, random));
        }
    }

    private static int any(Random random, int usual) {
        return random.nextInt(12) == 0 ? EDGES[random.nextInt(EDGES.length)] : random.nextInt(usual);
    }

    private static String call(BarrierLights x, Random random) {
        int a = any(random, 2);
        int b = any(random, 8);
        int c = any(random, 4);
        switch (random.nextInt(24)) {
            case 0: return "" + x.put(a, b, any(random, 8), any(random, 7));
            case 1: return random.nextInt(5) == 0 ? Check.enact(x, a) : "" + x.place(a);
            case 2: return "" + x.detect(a, b, random.nextBoolean());
            case 3: return "" + x.press(a, b);
            case 4: return "" + x.target(a, any(random, 2), b);
            case 5: return "" + x.preempt(a, any(random, 2), random.nextInt(3) == 0);
            case 6: return "" + x.plan(c, 20 + any(random, 20), any(random, 20), any(random, 20));
            case 7: return "" + x.message(a, b, c);
            case 8: return "" + x.fault(a, b, random.nextInt(4) == 0 ? c : 0);
            case 9: return "" + x.reset(a);
            case 10: return "" + x.lamp(a, b);
            case 11: return "" + x.signs(a, b);
            case 12: return "" + x.crossing(a, b);
            case 13: return "" + x.occupancy(a, b);
            case 14: return Check.lamps(x, 0) + Check.signs(x);
            default: return Check.tick(x, any(random, 21)) + x.crossing(0, 5) + x.crossing(0, 6);
        }
    }
}
