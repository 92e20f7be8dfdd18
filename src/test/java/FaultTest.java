/** Promise 11, and the monitor that faults wake. */
public final class FaultTest {
    public static void main(String[] args) {
        whatIsNotThereIsRefused();
        conflicts();
        phasesThatGoTogether();
        darkForTheSecondTick();
        shortYellow();
        everyPhaseIsWatchedForShort();
        yellowIsCountedSinceGreen();
        theOrderOfReasons();
        itBeginsAnewAtAStart();
        whatFlashingEnds();
        Check.end();
    }

    private static void whatIsNotThereIsRefused() {
        BarrierLights x = new BarrierLights();
        for (int phase = 0; phase < 8; phase++) {
            for (int fault = 0; fault < 4; fault++) {
                Check.due("fault", x.fault(1, phase, fault), true);
            }
        }
        for (int wrong : new int[] {-1, 8, Integer.MIN_VALUE, Integer.MAX_VALUE}) {
            Check.due("fault of phase " + wrong, x.fault(0, wrong, 1), false);
        }
        for (int wrong : new int[] {-1, 4, Integer.MIN_VALUE, Integer.MAX_VALUE}) {
            Check.due("fault " + wrong, x.fault(0, 0, wrong), false);
        }
        for (int wrong : new int[] {-1, 2, Integer.MIN_VALUE, Integer.MAX_VALUE}) {
            Check.due("fault at crossing " + wrong, x.fault(wrong, 0, 1), false);
        }
        BarrierLights y = Check.started("02", 1, 0, 1, 3, 0, 0, 0, 0);
        y.fault(0, 0, 2);
        y.fault(0, 0, 4);
        y.fault(1, 2, 2);
        Check.dueText("a refused fault changes nothing", Check.lamps(y, 0), "5-R-----");
        y.fault(0, 0, 0);
        Check.dueText("none any more", Check.lamps(y, 0), "R-R-----");
    }

    /** What the monitor finds at the first tick, phases 0 and 4 being green, one other burning. */
    private static void conflicts() {
        for (int phase = 0; phase < 8; phase++) {
            BarrierLights x = Check.started("01234567", 4, 0, 9, 3, 1, 0, 0, 0);
            x.fault(0, phase, 2);
            x.tick(1);
            boolean isGreenAnyway = phase == 0 || phase == 4;
            Check.due("why, phase " + phase + " burning", x.crossing(0, 2), isGreenAnyway ? 0 : 1);
            Check.dueText("lamps", Check.lamps(x, 0), isGreenAnyway ? "GRRRGRRR" : "********");
        }
        BarrierLights y = Check.started("0127", 4, 0, 9, 3, 1, 0, 0, 0);
        y.fault(0, 3, 2);
        y.fault(0, 4, 2);
        Check.trace("phases that aren't used burn nothing", y, "4 GRR----R");
        y.fault(0, 7, 2);
        Check.trace("yellow is in conflict too", y, "1 ***----*");
        Check.due("why", y.crossing(0, 2), 1);
    }

    private static void phasesThatGoTogether() {
        BarrierLights x = Check.started("025", 2, 0, 9, 3, 1, 0, 0, 0);
        x.detect(0, 0, true);
        x.target(0, 0, 0);
        x.preempt(0, 0, true);
        x.fault(0, 5, 2);
        Check.trace("5 burns beside 0", x, "5 G-R--5--");
        Check.due("why", x.crossing(0, 2), 0);
        x.target(0, 0, 2);
        Check.trace("beside yellow and red too", x, "3 Y-R--5--", "1 R-R--5--", "1 *-*--*--");
        Check.due("but not beside side 1", x.crossing(0, 2), 1);
    }

    private static void darkForTheSecondTick() {
        BarrierLights x = Check.started("0246", 3, 0, 9, 3, 1, 0, 0, 0);
        x.fault(0, 2, 1);
        Check.trace("one dark tick", x, "1 G---G-R-");
        x.fault(0, 2, 0);
        Check.trace("then it burns", x, "1 G-R-G-R-");
        x.fault(0, 2, 1);
        Check.trace("one more", x, "1 G---G-R-");
        x.fault(0, 2, 0);
        x.fault(0, 6, 1);
        Check.trace("and one of another phase", x, "1 Y-R-Y---", "1 *-*-*-*-");
        Check.due("why", x.crossing(0, 2), 2);
        for (int phase = 0; phase < 8; phase++) {
            BarrierLights y = Check.started("01234567", 1, 0, 9, 3, 4, 0, 0, 0);
            Check.ticks(y, 5);
            Check.dueText("all red", Check.lamps(y, 0), "RRRRRRRR");
            y.fault(0, phase, 1);
            y.tick(1);
            Check.due("phase " + phase + " dark once", y.crossing(0, 2), 0);
            y.tick(1);
            Check.due("phase " + phase + " dark twice", y.crossing(0, 2), 2);
        }
    }

    /** Each phase in its turn goes from green to nothing. */
    private static void everyPhaseIsWatchedForShort() {
        for (int phase = 0; phase < 8; phase++) {
            BarrierLights x = Check.started("01234567", 1, 0, 9, 3, 0, 0, 0, 1);
            x.fault(0, phase, 3);
            int greenTick = 1 + 4 * (phase % 4);
            Check.ticks(x, greenTick);
            Check.due("phase " + phase + " is green", x.lamp(0, phase), 4);
            x.tick(1);
            Check.due("why, without yellow of phase " + phase, x.crossing(0, 2), 3);
        }
    }

    private static void shortYellow() {
        BarrierLights x = Check.started("0246", 2, 0, 9, 4, 1, 0, 0, 0);
        x.fault(0, 0, 3);
        Check.trace("no yellow at all", x, "2 G-R-G-R-", "1 *-*-*-*-");
        Check.due("why", x.crossing(0, 2), 3);
        for (int yellow = 1; yellow <= 4; yellow++) {
            BarrierLights y = Check.started("0246", 2, 0, 9, 4, 1, 0, 0, 0);
            Check.ticks(y, 2 + yellow);
            Check.due("yellow", y.lamp(0, 0), 2);
            y.fault(0, 0, 3);
            y.tick(1);
            Check.due("why after " + yellow + " yellow ticks", y.crossing(0, 2), yellow < 3 ? 3 : 0);
        }
        BarrierLights z = Check.started("0246", 2, 0, 9, 3, 0, 0, 0, 0);
        Check.trace("yellow for 3 ticks is long enough", z, "2 G-R-G-R-", "3 Y-R-Y-R-", "9 R-G-R-G-");
    }

    private static void yellowIsCountedSinceGreen() {
        BarrierLights x = Check.started("0246", 2, 0, 9, 4, 2, 0, 0, 0);
        Check.trace("to its second yellow tick", x, "2 G-R-G-R-", "1 Y-R-Y-R-");
        x.fault(0, 4, 2);
        Check.trace("green burns with it", x, "1 Y-R-6-R-");
        x.fault(0, 4, 0);
        Check.trace("then 2 ticks of yellow alone", x, "2 Y-R-Y-R-", "1 *-*-*-*-");
        Check.due("why", x.crossing(0, 2), 3);
        BarrierLights y = Check.started("0246", 2, 0, 9, 4, 2, 0, 0, 0);
        y.fault(0, 4, 2);
        Check.trace("green burns for one tick of yellow", y, "2 G-R-G-R-", "1 Y-R-6-R-");
        y.fault(0, 4, 0);
        Check.trace("then 3 ticks of yellow alone", y, "3 Y-R-Y-R-", "2 R-R-R-R-", "2 R-G-R-G-");
        BarrierLights z = Check.started("0246", 2, 0, 9, 3, 3, 0, 0, 0);
        Check.trace("to red", z, "2 G-R-G-R-", "3 Y-R-Y-R-", "1 R-R-R-R-");
        z.fault(0, 4, 2);
        Check.trace("green burns in red", z, "1 R-R-5-R-");
        z.fault(0, 4, 0);
        Check.trace("and goes without yellow", z, "1 *-*-*-*-");
        Check.due("why", z.crossing(0, 2), 3);
    }

    private static void theOrderOfReasons() {
        BarrierLights x = Check.started("0246", 2, 0, 9, 3, 1, 0, 0, 0);
        x.tick(1);
        x.fault(0, 0, 3);
        x.fault(0, 2, 1);
        Check.trace("dark once", x, "1 G---G-R-", "1 *-*-*-*-");
        Check.due("dark goes before short", x.crossing(0, 2), 2);
        BarrierLights y = Check.started("0246", 2, 0, 9, 3, 1, 0, 0, 0);
        y.tick(1);
        y.fault(0, 0, 3);
        y.fault(0, 2, 1);
        y.tick(1);
        y.fault(0, 6, 2);
        y.tick(1);
        Check.due("conflict goes before both", y.crossing(0, 2), 1);
    }

    private static void itBeginsAnewAtAStart() {
        BarrierLights x = Check.started("0246", 2, 0, 9, 3, 1, 0, 0, 0);
        x.fault(0, 2, 1);
        x.tick(1);
        Check.enact(x, 0);
        x.tick(1);
        Check.due("dark for the first tick since it started", x.crossing(0, 2), 0);
        x.tick(1);
        Check.due("and for the second", x.crossing(0, 2), 2);
        BarrierLights y = Check.started("0246", 2, 0, 9, 3, 1, 0, 0, 0);
        Check.ticks(y, 20);
        Check.dueText("side 1 rests", Check.lamps(y, 0), "R-G-R-G-");
        Check.enact(y, 0);
        Check.trace("green of before is forgotten", y, "1 G-R-G-R-");
        y.fault(0, 2, 2);
        y.tick(1);
        y.fault(0, 2, 0);
        y.reset(0);
        Check.trace("at a reset too", y, "2 G-R-G-R-");
    }

    private static void whatFlashingEnds() {
        BarrierLights x = Check.started("0246", 4, 0, 9, 3, 1, 5, 5, 0);
        x.press(0, 0);
        x.press(0, 2);
        x.detect(0, 2, true);
        x.tick(1);
        Check.dueText("signs", Check.signs(x), "4 0 3 0 0 0 1 0");
        x.fault(0, 2, 2);
        x.tick(1);
        Check.dueText("no calls, no WALK", Check.signs(x), "0 0 0 0 0 0 0 0");
        Check.dueText("state", Check.state(x, 0), "0 4 1 -1 -1 -1 -1");
        x.fault(0, 2, 0);
        Check.trace("it goes on flashing", x, "20 *-*-*-*-");
        Check.dueText("without calls", Check.signs(x), "0 0 0 0 0 0 0 0");
    }
}
