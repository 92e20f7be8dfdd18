/** Runs of calls that come by a fixed rule, on an object and on the Model: every answer is the same. */
public final class ModelTest {
    private static final int RUNS = 6000;
    private static final int CALLS_OF_AN_OBJECT = 512;
    private static final int MOST_CALLS_AT_ONCE = 32;

    private final BarrierLights x = new BarrierLights();
    private final Model model = new Model();
    private final StringBuilder calls = new StringBuilder();
    private final int[] numbers = new int[2];
    private final boolean faulty;
    private long seed;
    private int made;

    private ModelTest(int run) {
        seed = run;
        faulty = below(3) == 0;
    }

    public static void main(String[] args) {
        boolean same = true;
        for (int run = 1; run <= RUNS && same; run++) {
            same = new ModelTest(run).agrees(run);
        }
        Check.end();
    }

    /** The same numbers on every machine. */
    private int below(int bound) {
        seed = seed * 6364136223846793005L + 1442695040888963407L;
        return (int) ((seed >>> 33) % bound);
    }

    private boolean chance(int ofSo) {
        return below(ofSo) == 0;
    }

    private int from(int least, int most) {
        return least + below(most - least + 1);
    }

    /** Now and then beyond its bounds. */
    private int about(int least, int most) {
        if (!chance(40)) {
            return from(least, most);
        }
        int[] beyond = {least - 1, most + 1, Integer.MIN_VALUE, Integer.MAX_VALUE};
        return beyond[below(4)];
    }

    private boolean agrees(int run) {
        boolean same = table(0) && table(1) && plans();
        while (same && made < CALLS_OF_AN_OBJECT - MOST_CALLS_AT_ONCE) {
            same = chance(2) ? ticks() : change();
        }
        if (!same) {
            Check.dueText("run " + run + calls, "another", "as the model's");
        }
        return same;
    }

    private boolean same(String call, Object got, Object want) {
        made++;
        calls.append('\n').append(call).append(" = ").append(got);
        boolean same = got.equals(want);
        if (!same) {
            calls.append(", due is ").append(want);
        }
        return same;
    }

    /** Crossing 1 is OFF in most of the runs, so that more calls are left for crossing 0. */
    private boolean table(int crossing) {
        if (crossing == 1 && !chance(6)) {
            return true;
        }
        boolean same = true;
        for (int phase = 0; phase < 8; phase++) {
            same = same && (chance(4) || row(crossing, phase));
        }
        return same && enact(crossing);
    }

    private boolean row(int crossing, int phase) {
        int min = from(1, chance(6) ? 30 : 5);
        int walk = chance(2) ? 0 : from(1, chance(6) ? 20 : 4);
        int clear = walk == 0 ? 0 : from(1, chance(6) ? 20 : 4);
        int recall = chance(2) ? 0 : from(0, walk == 0 ? 2 : 3);
        int[] entries = {min, from(0, 10), from(min, chance(2) ? 60 : min + 6), from(3, 6), from(0, 4), walk, clear, recall};
        if (chance(60)) {
            entries[below(8)] = from(0, 99);
        }
        boolean same = true;
        for (int what = 0; what < 8; what++) {
            same = same && (entries[what] == 0 && chance(2) || put(crossing, phase, what, entries[what]));
        }
        return same;
    }

    private boolean put(int crossing, int phase, int what, int v) {
        return same("put(" + crossing + ", " + phase + ", " + what + ", " + v + ")",
            x.put(crossing, phase, what, v), model.put(crossing, phase, what, v));
    }

    private boolean enact(int crossing) {
        return same("enact(" + crossing + ")", Check.enact(x, crossing), model.enact(crossing))
            && same("place(" + crossing + ")", x.place(crossing), model.place(crossing));
    }

    private boolean plans() {
        return plan(0, from(20, 30)) && plan(1, from(20, 120));
    }

    private boolean plan(int plan, int cycle) {
        int offset = about(0, Math.max(cycle % 1000 - 1, 0));
        int split = about(1, Math.max(cycle % 1000 - 1, 1));
        return same("plan(" + plan + ", " + cycle + ", " + offset + ", " + split + ")",
            x.plan(plan, cycle, offset, split), model.plan(plan, cycle, offset, split));
    }

    private boolean ticks() {
        int n = chance(8) ? about(0, 20) : 1;
        boolean same = same("tick(" + n + ")", Check.tick(x, n), model.tick(n));
        int crossing = chance(6) ? 1 : 0;
        for (int what = 0; what < 7; what++) {
            same = same && (what < 5 && !chance(4) || askCrossing(crossing, what));
        }
        for (int phase = 0; phase < 8; phase++) {
            same = same && (!chance(5) || askPhase(crossing, phase));
        }
        return same;
    }

    private boolean askCrossing(int crossing, int what) {
        return same("crossing(" + crossing + ", " + what + ")", x.crossing(crossing, what), model.crossing(crossing, what));
    }

    private boolean askPhase(int crossing, int phase) {
        String of = "(" + crossing + ", " + phase + ")";
        return same("lamp" + of, x.lamp(crossing, phase), model.lamp(crossing, phase))
            && same("signs" + of, x.signs(crossing, phase), model.signs(crossing, phase))
            && (!chance(8) || same("occupancy" + of, x.occupancy(crossing, phase), model.occupancy(crossing, phase)));
    }

    private boolean change() {
        int crossing = chance(5) ? about(0, 1) : 0;
        int phase = about(0, 7);
        switch (below(16)) {
            case 0: case 1: case 2: case 3: return detect(crossing, phase, chance(2));
            case 4: case 5: return press(crossing, phase);
            case 6: return target(crossing, about(0, 1), phase);
            case 7: case 8: return preempt(crossing, about(0, 1), chance(3));
            case 9: return plan(about(0, 3), about(20, 120));
            case 10: case 11: return message(crossing, about(0, 3));
            case 12: return !faulty || fault(crossing, phase, chance(2) ? 0 : about(0, 3));
            case 13: return same("reset(" + crossing + ")", x.reset(crossing), model.reset(crossing));
            case 14: return !chance(8) || put(crossing, phase, about(0, 7), about(0, 20)) && enact(crossing);
            default: return askCrossing(crossing, about(0, 6)) && askPhase(crossing, phase);
        }
    }

    private boolean detect(int crossing, int phase, boolean on) {
        return same("detect(" + crossing + ", " + phase + ", " + on + ")",
            x.detect(crossing, phase, on), model.detect(crossing, phase, on));
    }

    private boolean press(int crossing, int phase) {
        return same("press(" + crossing + ", " + phase + ")", x.press(crossing, phase), model.press(crossing, phase));
    }

    private boolean target(int crossing, int input, int phase) {
        return same("target(" + crossing + ", " + input + ", " + phase + ")",
            x.target(crossing, input, phase), model.target(crossing, input, phase));
    }

    private boolean preempt(int crossing, int input, boolean on) {
        return same("preempt(" + crossing + ", " + input + ", " + on + ")",
            x.preempt(crossing, input, on), model.preempt(crossing, input, on));
    }

    /** Most of them bear the number that is next. */
    private boolean message(int crossing, int plan) {
        int to = crossing == 1 ? 1 : 0;
        int number = chance(6) ? about(0, 7) : numbers[to];
        boolean taken = x.message(crossing, number, plan);
        if (taken) {
            numbers[to] = (number + 1) % 8;
        }
        return same("message(" + crossing + ", " + number + ", " + plan + ")", taken, model.message(crossing, number, plan));
    }

    private boolean fault(int crossing, int phase, int fault) {
        return same("fault(" + crossing + ", " + phase + ", " + fault + ")",
            x.fault(crossing, phase, fault), model.fault(crossing, phase, fault));
    }
}
