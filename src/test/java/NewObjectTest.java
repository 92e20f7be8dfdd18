/** Promise 1. */
public final class NewObjectTest {
    public static void main(String[] args) {
        everythingIsOff();
        tablesAreEmpty();
        nothingIsSet();
        Check.due("NONE", BarrierLights.NONE, -1);
        Check.end();
    }

    private static void everythingIsOff() {
        BarrierLights x = new BarrierLights();
        for (int crossing = 0; crossing < 2; crossing++) {
            Check.dueText("a new crossing's state", Check.state(x, crossing), "0 0 0 -1 -1 -1 -1");
            Check.dueText("a new crossing's lamps", Check.lamps(x, crossing), "--------");
            Check.due("place", x.place(crossing), -1);
            for (int phase = 0; phase < 8; phase++) {
                Check.due("signs", x.signs(crossing, phase), 0);
                Check.due("occupancy", x.occupancy(crossing, phase), 0f);
            }
        }
        Check.due("tick(0)", x.tick(0), 0);
    }

    private static void tablesAreEmpty() {
        BarrierLights x = new BarrierLights();
        for (int crossing = 0; crossing < 2; crossing++) {
            Check.dueText("enact of an empty table", Check.enact(x, crossing), "IllegalStateException");
            Check.due("place of an empty table", x.place(crossing), 64);
        }
    }

    private static void nothingIsSet() {
        BarrierLights x = new BarrierLights();
        for (int plan = 0; plan < 4; plan++) {
            Check.due("message with a plan that wasn't made", x.message(0, 0, plan), false);
        }
        BarrierLights y = Check.started("0246", 1, 0, 1, 3, 0, 0, 0, 0);
        Check.dueText("no fault at first", Check.lamps(y, 0), "R-R-R-R-");
        y.preempt(0, 0, true);
        Check.due("an input without target", y.crossing(0, 1), 1);
        y.preempt(0, 0, false);
        y.preempt(0, 1, true);
        Check.due("input 1 without target", y.crossing(0, 1), 1);
    }
}
