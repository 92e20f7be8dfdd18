/** Promise 9, and how a plan holds and forces. */
public final class PlanTest {
    public static void main(String[] args) {
        edges();
        aRefusedPlanChangesNothing();
        aNewCycleTakesTheClocksWithIt();
        itHoldsOnSide0();
        itForcesOnSide1();
        forwardIsNotHeld();
        forcedIsNotBeforeMin();
        Check.end();
    }

    private static void edges() {
        BarrierLights x = new BarrierLights();
        for (int plan = 0; plan < 4; plan++) {
            Check.due("plan " + plan, x.plan(plan, 60, 10, 30), true);
        }
        for (int wrong : new int[] {-1, 4, Integer.MIN_VALUE, Integer.MAX_VALUE}) {
            Check.due("plan " + wrong, x.plan(wrong, 60, 10, 30), false);
        }
        Check.due("cycle 20", x.plan(0, 20, 0, 1), true);
        Check.due("cycle 19", x.plan(0, 19, 0, 1), false);
        Check.due("cycle 120", x.plan(0, 120, 119, 119), true);
        Check.due("cycle 121", x.plan(0, 121, 0, 1), false);
        for (int wrong : new int[] {0, -1, Integer.MIN_VALUE, Integer.MAX_VALUE}) {
            Check.due("cycle " + wrong, x.plan(0, wrong, 0, 1), false);
        }
        Check.due("offset 0", x.plan(0, 30, 0, 1), true);
        Check.due("offset 29 of 30", x.plan(0, 30, 29, 1), true);
        for (int wrong : new int[] {-1, 30, Integer.MIN_VALUE, Integer.MAX_VALUE}) {
            Check.due("offset " + wrong, x.plan(0, 30, wrong, 1), false);
        }
        Check.due("split 1", x.plan(0, 30, 0, 1), true);
        Check.due("split 29 of 30", x.plan(0, 30, 0, 29), true);
        for (int wrong : new int[] {-1, 0, 30, Integer.MIN_VALUE, Integer.MAX_VALUE}) {
            Check.due("split " + wrong, x.plan(0, 30, 0, wrong), false);
        }
    }

    private static void aRefusedPlanChangesNothing() {
        BarrierLights x = new BarrierLights();
        x.plan(1, 20, 20, 1);
        x.plan(1, 20, 0, 0);
        Check.due("it wasn't made", x.message(0, 0, 1), false);
        x.plan(1, 40, 0, 1);
        x.message(0, 0, 1);
        Check.ticks(x, 26);
        Check.due("local clock", x.crossing(0, 4), 25);
        Check.due("a wrong plan", x.plan(1, 20, 0, 20), false);
        Check.due("local clock", x.crossing(0, 4), 25);
    }

    private static void aNewCycleTakesTheClocksWithIt() {
        BarrierLights x = new BarrierLights();
        x.plan(0, 40, 0, 1);
        x.plan(1, 60, 0, 1);
        x.message(0, 0, 0);
        x.message(1, 0, 1);
        Check.ticks(x, 27);
        x.plan(0, 20, 0, 1);
        Check.due("modulo the new cycle", x.crossing(0, 4), 6);
        Check.due("the other has another plan", x.crossing(1, 4), 26);
        x.plan(1, 26, 0, 1);
        Check.due("modulo the new cycle", x.crossing(1, 4), 0);
        x.plan(1, 100, 0, 1);
        Check.due("a longer cycle", x.crossing(1, 4), 0);
    }

    private static void itHoldsOnSide0() {
        BarrierLights x = Check.started("02", 1, 0, 10, 3, 0, 0, 0, 0);
        x.plan(0, 20, 0, 10);
        x.message(0, 0, 0);
        Check.trace("while the local clock is 0 .. 9", x, "10 G-R-----", "3 Y-R-----", "9 R-G-----");
        BarrierLights y = Check.started("02", 1, 0, 10, 3, 0, 0, 0, 0);
        y.plan(0, 20, 0, 1);
        y.message(0, 0, 0);
        Check.trace("a split of 1", y, "1 G-R-----", "3 Y-R-----", "9 R-G-----");
        BarrierLights z = Check.started("02", 1, 0, 10, 3, 0, 0, 0, 0);
        z.plan(0, 20, 0, 10);
        z.message(0, 0, 0);
        Check.ticks(z, 5);
        z.plan(0, 20, 0, 5);
        Check.trace("it goes by the plan as it is now", z, "3 Y-R-----", "9 R-G-----");
    }

    private static void itForcesOnSide1() {
        BarrierLights x = new BarrierLights();
        Check.write(x, 0, 0, 1, 0, 60, 3, 0, 0, 0, 0);
        Check.write(x, 0, 2, 1, 10, 60, 3, 0, 0, 0, 0);
        Check.enact(x, 0);
        x.plan(0, 20, 0, 10);
        x.message(0, 0, 0);
        x.detect(0, 0, true);
        x.detect(0, 2, true);
        Check.trace("side 0 is held, side 1 forced at local clock 0", x,
            "10 G-R-----", "3 Y-R-----", "7 R-G-----", "3 R-Y-----", "2 G-R-----");
    }

    private static void forwardIsNotHeld() {
        BarrierLights x = Check.started("012", 1, 0, 10, 3, 0, 0, 0, 0);
        x.plan(0, 20, 0, 15);
        x.message(0, 0, 0);
        Check.trace("only the barrier is", x, "1 GRR-----", "3 YRR-----", "11 RGR-----", "3 RYR-----", "5 RRG-----");
    }

    private static void forcedIsNotBeforeMin() {
        BarrierLights x = Check.started("02", 6, 9, 60, 3, 0, 0, 0, 0);
        x.plan(0, 120, 0, 119);
        x.detect(0, 0, true);
        x.detect(0, 2, true);
        x.target(0, 0, 2);
        x.preempt(0, 0, true);
        x.tick(1);
        x.preempt(0, 0, false);
        x.message(0, 0, 0);
        Check.trace("MIN holds", x, "5 R-G-----", "3 R-Y-----", "9 G-R-----");
    }
}
