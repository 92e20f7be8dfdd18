/** Promise 3, and what STARTS means. */
public final class EnactTest {
    public static void main(String[] args) {
        usedPhasesAreCounted();
        noSuchCrossingThrows();
        aWrongTableChangesNothing();
        theTableIsACopy();
        aCrossingStartsAnew();
        whatStaysWhenItStarts();
        aFlashingCrossingStarts();
        Check.end();
    }

    private static void usedPhasesAreCounted() {
        Check.started("02", 1, 0, 1, 3, 0, 0, 0, 0);
        Check.started("157", 30, 10, 60, 6, 4, 20, 20, 3);
        Check.started("01234567", 4, 2, 10, 3, 1, 0, 0, 0);
    }

    private static void noSuchCrossingThrows() {
        BarrierLights x = new BarrierLights();
        for (int wrong : new int[] {-1, 2, Integer.MIN_VALUE, Integer.MAX_VALUE}) {
            Check.dueText("enact(" + wrong + ")", Check.enact(x, wrong), "IllegalArgumentException");
        }
        Check.due("place after that", x.place(0), -1);
    }

    private static void aWrongTableChangesNothing() {
        BarrierLights x = Check.started("0246", 2, 0, 9, 3, 0, 0, 0, 0);
        x.tick(1);
        x.put(0, 0, 3, 2);
        Check.dueText("enact of a wrong table", Check.enact(x, 0), "IllegalStateException");
        Check.dueText("it goes on", Check.state(x, 0), "0 1 0 -1 -1 0 4");
        Check.trace("as it was", x, "1 G-R-G-R-", "3 Y-R-Y-R-", "9 R-G-R-G-");
        BarrierLights off = new BarrierLights();
        Check.dueText("enact of an empty table", Check.enact(off, 1), "IllegalStateException");
        Check.due("it stays off", off.crossing(1, 1), 0);
    }

    private static void theTableIsACopy() {
        BarrierLights x = Check.started("0246", 2, 0, 9, 3, 0, 0, 0, 0);
        x.put(0, 0, 3, 6);
        x.put(0, 1, 0, 1);
        Check.trace("the table as enacted", x, "2 G-R-G-R-", "3 Y-R-Y-R-", "1 R-G-R-G-");
        Check.dueText("enact", Check.enact(x, 0), "IllegalStateException");
        x.put(0, 1, 0, 0);
        Check.dueText("enact", Check.enact(x, 0), "4");
        Check.trace("the new one", x, "2 G-R-G-R-", "3 Y-R-Y-R-", "3 Y-R-R-R-", "1 R-G-R-G-");
    }

    private static void aCrossingStartsAnew() {
        BarrierLights x = Check.started("0246", 4, 0, 9, 3, 0, 2, 2, 0);
        Check.dueText("state", Check.state(x, 0), "1 1 0 -1 -1 -1 -1");
        Check.dueText("signs", Check.signs(x), "1 0 1 0 1 0 1 0");
        Check.dueText("lamps", Check.lamps(x, 0), "R-R-R-R-");
        x.press(0, 0);
        x.press(0, 2);
        x.tick(1);
        Check.dueText("signs in its WALK", Check.signs(x), "4 0 3 0 0 0 1 0");
        x.put(0, 6, 0, 0);
        Check.dueText("enact again", Check.enact(x, 0), "3");
        Check.dueText("state", Check.state(x, 0), "1 1 0 -1 -1 -1 -1");
        Check.dueText("signs, without walk calls", Check.signs(x), "1 0 1 0 1 0 0 0");
        Check.dueText("lamps", Check.lamps(x, 0), "R-R-R---");
    }

    private static void whatStaysWhenItStarts() {
        BarrierLights x = Check.started("0246", 4, 0, 9, 3, 0, 0, 0, 0);
        x.plan(2, 40, 0, 20);
        x.message(0, 5, 2);
        x.target(0, 1, 2);
        x.preempt(0, 1, true);
        x.detect(0, 7, true);
        Check.ticks(x, 3);
        x.fault(0, 4, 2);
        float before = x.occupancy(0, 7);
        Check.dueText("enact", Check.enact(x, 0), "4");
        Check.due("occupancy", x.occupancy(0, 7), before);
        Check.dueText("state", Check.state(x, 0), "1 3 0 2 2 -1 -1");
        Check.dueText("the fault", Check.lamps(x, 0), "R-R-5-R-");
        x.fault(0, 4, 0);
        x.preempt(0, 1, false);
        Check.due("by its plan", x.crossing(0, 1), 2);
        Check.ticks(x, 20);
        x.message(0, 6, 2);
        Check.ticks(x, 20);
        Check.dueText("enact", Check.enact(x, 0), "4");
        Check.ticks(x, 16);
        Check.due("not failed at 59", x.signs(0, 7), 0);
        Check.ticks(x, 1);
        Check.due("on-times stay, so it fails at 60", x.signs(0, 7), 16);
        Check.due("clock", x.tick(0), 60);
    }

    private static void aFlashingCrossingStarts() {
        BarrierLights x = Check.started("0246", 4, 0, 9, 3, 0, 0, 0, 0);
        x.fault(0, 2, 2);
        x.tick(1);
        Check.dueText("it flashes", Check.state(x, 0), "0 4 1 -1 -1 -1 -1");
        x.fault(0, 2, 0);
        Check.dueText("enact", Check.enact(x, 0), "4");
        Check.dueText("it starts", Check.state(x, 0), "1 1 0 -1 -1 -1 -1");
    }
}
