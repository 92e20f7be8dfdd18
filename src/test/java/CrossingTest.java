/** Promise 16. */
public final class CrossingTest {
    public static void main(String[] args) {
        whatIsNotThere();
        theWayItGoes();
        sideAndPhases();
        planAndLocalClock();
        Check.end();
    }

    private static void whatIsNotThere() {
        BarrierLights x = Check.started("02", 1, 0, 1, 3, 0, 0, 0, 0);
        for (int wrong : new int[] {-1, 7, Integer.MIN_VALUE, Integer.MAX_VALUE}) {
            Check.due("crossing(0, " + wrong + ")", x.crossing(0, wrong), -1);
        }
        for (int what = -1; what < 8; what++) {
            for (int wrong : new int[] {-1, 2, Integer.MIN_VALUE, Integer.MAX_VALUE}) {
                Check.due("crossing(" + wrong + ", " + what + ")", x.crossing(wrong, what), -1);
            }
        }
    }

    private static void theWayItGoes() {
        BarrierLights x = new BarrierLights();
        Check.write(x, 0, 0, 1, 0, 1, 3, 0, 0, 0, 0);
        Check.write(x, 0, 2, 1, 0, 1, 3, 0, 0, 0, 0);
        x.plan(3, 30, 0, 1);
        x.message(0, 0, 3);
        x.target(0, 0, 2);
        x.preempt(0, 0, true);
        Check.dueText("off, with all of it", Check.state(x, 0), "0 0 0 3 0 -1 -1");
        Check.enact(x, 0);
        Check.dueText("with an input", Check.state(x, 0), "1 3 0 3 0 -1 -1");
        x.fault(0, 0, 2);
        x.tick(1);
        Check.dueText("flashes", Check.state(x, 0), "1 4 1 3 0 -1 -1");
        x.fault(0, 0, 0);
        x.reset(0);
        x.tick(1);
        Check.dueText("with an input", Check.state(x, 0), "1 3 0 3 1 2 -1");
        x.preempt(0, 0, false);
        Check.dueText("by a plan", Check.state(x, 0), "1 2 0 3 1 2 -1");
        Check.ticks(x, 28);
        Check.dueText("goes free", Check.state(x, 0), "0 1 0 -1 -1 0 -1");
    }

    private static void sideAndPhases() {
        BarrierLights x = Check.started("0146", 2, 0, 5, 3, 1, 0, 0, 0);
        Check.dueText("started", Check.state(x, 0), "1 1 0 -1 -1 -1 -1");
        x.tick(1);
        Check.dueText("green", Check.state(x, 0), "0 1 0 -1 -1 0 4");
        Check.ticks(x, 5);
        Check.dueText("red, still the ring's", Check.state(x, 0), "0 1 0 -1 -1 0 4");
        Check.ticks(x, 1);
        Check.dueText("ring 0 went forward", Check.state(x, 0), "0 1 0 -1 -1 1 4");
        Check.ticks(x, 6);
        Check.dueText("ring 1 alone on side 1", Check.state(x, 0), "1 1 0 -1 -1 -1 6");
    }

    private static void planAndLocalClock() {
        BarrierLights x = new BarrierLights();
        x.plan(0, 20, 0, 10);
        x.message(1, 4, 0);
        Check.dueText("a plan", Check.state(x, 1), "0 0 0 0 0 -1 -1");
        x.tick(12);
        Check.dueText("its clock", Check.state(x, 1), "0 0 0 0 11 -1 -1");
        Check.dueText("the other", Check.state(x, 0), "0 0 0 -1 -1 -1 -1");
    }
}
