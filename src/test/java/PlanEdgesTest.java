/** Promises 9 and 10: what a plan may be, and what becomes of local clocks with a new cycle or another plan. */
public final class PlanEdgesTest {
    public static void main(String[] args) {
        cycleFrom20To120();
        offsetBelowTheCycle();
        splitBelowTheCycle();
        allFourPlans();
        aNewCycleAtEachClock();
        aNewCycleForBothCrossings();
        aNewOffsetAndSplit();
        anotherPlanAtEachClock();
        theFirstMessageBegins0();
        thePlanMustBeMade();
        Check.end();
    }

    private static void cycleFrom20To120() {
        BarrierLights x = new BarrierLights();
        for (int cycle = 0; cycle <= 140; cycle++) {
            Check.due("cycle " + cycle, x.plan(0, cycle, 0, 1), cycle >= 20 && cycle <= 120);
        }
    }

    private static void offsetBelowTheCycle() {
        for (int cycle : new int[] {20, 21, 60, 119, 120}) {
            BarrierLights x = new BarrierLights();
            for (int offset = -2; offset <= cycle + 2; offset++) {
                Check.due("offset " + offset + " of " + cycle, x.plan(1, cycle, offset, 1), offset >= 0 && offset <= cycle - 1);
            }
        }
    }

    private static void splitBelowTheCycle() {
        for (int cycle : new int[] {20, 21, 60, 119, 120}) {
            BarrierLights x = new BarrierLights();
            for (int split = -2; split <= cycle + 2; split++) {
                Check.due("split " + split + " of " + cycle, x.plan(2, cycle, 0, split), split >= 1 && split <= cycle - 1);
            }
        }
    }

    private static void allFourPlans() {
        for (int plan = -2; plan <= 6; plan++) {
            BarrierLights x = new BarrierLights();
            boolean is = plan >= 0 && plan <= 3;
            Check.due("message before plan " + plan, x.message(0, 0, plan), false);
            Check.due("plan " + plan, x.plan(plan, 20, 0, 1), is);
            Check.due("message with plan " + plan, x.message(0, 0, plan), is);
            Check.due("its plan", x.crossing(0, 3), is ? plan : -1);
            for (int other = 0; other <= 3; other++) {
                if (other != plan) {
                    Check.due("message with plan " + other, x.message(0, 1, other), false);
                }
            }
        }
    }

    /** With a message at clock 0 and offset 0 the local clock behind tick n is n - 1. */
    private static BarrierLights atLocal(int local) {
        BarrierLights x = new BarrierLights();
        x.plan(0, 120, 0, 1);
        x.message(0, 0, 0);
        int number = 0;
        for (int i = 0; i <= local; i++) {
            x.tick(1);
            if (i % 20 == 19) {
                number++;
                x.message(0, number, 0);
            }
        }
        Check.due("local clock", x.crossing(0, 4), local);
        return x;
    }

    private static void aNewCycleAtEachClock() {
        for (int local : new int[] {0, 1, 18, 19, 20, 21, 38, 39, 40, 41, 59, 60, 118, 119}) {
            for (int cycle : new int[] {20, 39, 60, 119, 120}) {
                BarrierLights x = atLocal(local);
                Check.due("plan", x.plan(0, cycle, 0, 1), true);
                Check.due("local clock " + local + " with cycle " + cycle, x.crossing(0, 4), local % cycle);
            }
        }
        BarrierLights y = atLocal(25);
        y.plan(1, 20, 0, 1);
        Check.due("another plan's cycle", y.crossing(0, 4), 25);
        y.plan(0, 25, 0, 25);
        Check.due("a cycle that is refused", y.crossing(0, 4), 25);
        y.plan(0, 20, 0, 1);
        y.plan(0, 120, 0, 1);
        Check.due("shorter, then longer", y.crossing(0, 4), 5);
    }

    private static void aNewCycleForBothCrossings() {
        BarrierLights x = new BarrierLights();
        x.plan(3, 60, 0, 1);
        x.message(0, 0, 3);
        x.message(1, 5, 3);
        x.tick(20);
        x.tick(4);
        x.plan(3, 20, 0, 1);
        Check.due("crossing 0", x.crossing(0, 4), 3);
        Check.due("crossing 1", x.crossing(1, 4), 3);
    }

    /** What is held goes by the new split; what is put right goes by the new offset. */
    private static void aNewOffsetAndSplit() {
        for (int split = 1; split <= 8; split++) {
            BarrierLights x = Check.started("02", 1, 0, 9, 3, 0, 0, 0, 0);
            x.plan(0, 60, 0, 50);
            x.message(0, 0, 0);
            Check.trace("held", x, "4 G-R-----");
            x.plan(0, 60, 0, split);
            x.tick(1);
            Check.due("local clock", x.crossing(0, 4), 4);
            Check.due("split " + split + " at local clock 4", x.lamp(0, 0), split <= 4 ? 2 : 4);
        }
        BarrierLights y = atLocal(9);
        y.plan(0, 120, 2, 1);
        y.tick(1);
        Check.due("clock 10 less 2 is 8: from 10 to 9", y.crossing(0, 4), 9);
        y.tick(5);
        Check.due("clock 15 less 2 is 13: from 14 to 13", y.crossing(0, 4), 13);
        y.tick(5);
        Check.due("it is right", y.crossing(0, 4), 18);
    }

    private static void anotherPlanAtEachClock() {
        for (int local : new int[] {0, 1, 18, 19, 20, 21, 39, 40, 118, 119}) {
            for (int cycle : new int[] {20, 40, 119, 120}) {
                BarrierLights x = atLocal(local);
                x.plan(1, cycle, 0, 1);
                int number = 1 + (local + 1) / 20;
                Check.due("message", x.message(0, number % 8, 1), true);
                Check.due("its plan", x.crossing(0, 3), 1);
                Check.due("local clock " + local + " with cycle " + cycle, x.crossing(0, 4), local % cycle);
            }
        }
    }

    private static void theFirstMessageBegins0() {
        for (int clock : new int[] {0, 1, 7, 20}) {
            for (int number = 0; number < 8; number++) {
                BarrierLights x = new BarrierLights();
                x.plan(0, 20, 5, 1);
                x.tick(clock);
                Check.due("message " + number, x.message(1, number, 0), true);
                Check.due("local clock", x.crossing(1, 4), 0);
                Check.due("the other has none", x.crossing(0, 4), -1);
            }
        }
    }

    private static void thePlanMustBeMade() {
        BarrierLights x = new BarrierLights();
        x.plan(2, 19, 0, 1);
        x.plan(2, 20, 20, 1);
        x.plan(2, 20, 0, 20);
        Check.due("refused plans aren't made", x.message(0, 0, 2), false);
        x.plan(2, 20, 19, 19);
        Check.due("now it is", x.message(0, 0, 2), true);
    }
}
