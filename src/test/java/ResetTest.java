/** Promise 12. */
public final class ResetTest {
    public static void main(String[] args) {
        whatDoesNotFlashIsRefused();
        itStarts();
        aLastingFaultMakesItFlashAgain();
        theTableStays();
        Check.end();
    }

    private static void whatDoesNotFlashIsRefused() {
        BarrierLights x = Check.started("0246", 4, 0, 9, 3, 0, 2, 2, 0);
        Check.due("reset of one that goes", x.reset(0), false);
        Check.due("reset of one that is OFF", x.reset(1), false);
        for (int wrong : new int[] {-1, 2, Integer.MIN_VALUE, Integer.MAX_VALUE}) {
            Check.due("reset(" + wrong + ")", x.reset(wrong), false);
        }
        x.tick(1);
        x.reset(0);
        Check.dueText("it goes on", Check.state(x, 0), "0 1 0 -1 -1 0 4");
    }

    private static void itStarts() {
        BarrierLights x = Check.started("0246", 2, 0, 9, 3, 0, 2, 2, 0);
        x.plan(0, 60, 0, 1);
        x.message(0, 0, 0);
        x.detect(0, 7, true);
        Check.ticks(x, 10);
        x.fault(0, 0, 2);
        x.tick(1);
        Check.dueText("it flashes", Check.state(x, 0), "1 4 1 0 10 -1 -1");
        x.fault(0, 0, 0);
        x.tick(3);
        float occupancy = x.occupancy(0, 7);
        Check.due("reset", x.reset(0), true);
        Check.dueText("it starts", Check.state(x, 0), "1 2 0 0 13 -1 -1");
        Check.dueText("calls", Check.signs(x), "1 0 1 0 1 0 1 0");
        Check.due("occupancy", x.occupancy(0, 7), occupancy);
        Check.due("reset again", x.reset(0), false);
        Check.trace("as from an enact", x, "2 G-R-G-R-", "3 Y-R-Y-R-", "9 R-G-R-G-");
        Check.due("clock", x.tick(0), 28);
    }

    private static void aLastingFaultMakesItFlashAgain() {
        BarrierLights x = Check.started("0246", 2, 0, 9, 3, 0, 2, 2, 0);
        x.fault(0, 2, 2);
        x.tick(1);
        Check.due("reset", x.reset(0), true);
        Check.dueText("lamps before the tick", Check.lamps(x, 0), "R-5-R-R-");
        Check.trace("again", x, "3 *-*-*-*-");
        Check.due("why", x.crossing(0, 2), 1);
    }

    /** What was written since isn't enacted by a reset. */
    private static void theTableStays() {
        BarrierLights x = Check.started("0246", 2, 0, 9, 3, 0, 2, 2, 0);
        x.fault(0, 2, 2);
        x.tick(1);
        x.fault(0, 2, 0);
        Check.write(x, 0, 0, 1, 0, 9, 6, 0, 2, 2, 0);
        x.put(0, 6, 0, 0);
        Check.due("reset", x.reset(0), true);
        Check.trace("by the old table", x, "2 G-R-G-R-", "3 Y-R-Y-R-", "2 R-G-R-G-");
    }
}
