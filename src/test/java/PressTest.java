/** Promise 6, and what becomes of a walk call. */
public final class PressTest {
    public static void main(String[] args) {
        whatIsNotThereIsRefused();
        aPhaseBeginsWithItsWalk();
        aWalkCallIsACall();
        aGreenPhaseBeginsItsWalkIfNothingIsWanted();
        aGreenPhaseKeepsItsWalkCallIfSomethingIsWanted();
        recallThreeCallsToWalk();
        Check.end();
    }

    /** Phase 0 has WALK 2 and CLEAR 3, phase 2 has none. */
    private static BarrierLights table() {
        BarrierLights x = new BarrierLights();
        Check.write(x, 0, 0, 4, 0, 10, 3, 0, 2, 3, 0);
        Check.write(x, 0, 2, 1, 0, 10, 3, 0, 0, 0, 0);
        return x;
    }

    private static void whatIsNotThereIsRefused() {
        BarrierLights x = table();
        Check.write(x, 0, 3, 0, 0, 10, 3, 0, 2, 3, 0);
        Check.due("press while OFF", x.press(0, 0), false);
        Check.enact(x, 0);
        Check.due("no walk call was kept", x.signs(0, 0), 1);
        Check.due("press at the crossing that is OFF", x.press(1, 0), false);
        Check.due("press without WALK", x.press(0, 2), false);
        Check.due("press at an unused phase", x.press(0, 1), false);
        Check.due("press at an unused phase with WALK", x.press(0, 3), false);
        for (int wrong : new int[] {-1, 8, Integer.MIN_VALUE, Integer.MAX_VALUE}) {
            Check.due("press at phase " + wrong, x.press(0, wrong), false);
        }
        for (int wrong : new int[] {-1, 2, Integer.MIN_VALUE, Integer.MAX_VALUE}) {
            Check.due("press at crossing " + wrong, x.press(wrong, 0), false);
        }
        x.put(0, 2, 5, 5);
        Check.due("a WALK that is written alone", x.press(0, 2), false);
        x.put(0, 0, 5, 0);
        Check.due("press", x.press(0, 0), true);
        Check.due("press again", x.press(0, 0), true);
        Check.dueText("signs", Check.signs(x), "3 0 1 0 0 0 0 0");
        x.fault(0, 2, 2);
        x.tick(1);
        Check.due("press while it flashes", x.press(0, 0), false);
        Check.due("signs while it flashes", x.signs(0, 0), 0);
    }

    private static void aPhaseBeginsWithItsWalk() {
        BarrierLights x = table();
        Check.enact(x, 0);
        x.press(0, 0);
        int[] due = {4, 4, 8, 8, 8, 0};
        for (int sign : due) {
            Check.due("lamp in its WALK and CLEAR", x.lamp(0, 0), x.tick(0) == 0 ? 1 : 4);
            x.tick(1);
            Check.due("signs at clock " + x.tick(0), x.signs(0, 0), sign);
        }
        Check.due("yellow only when CLEAR has ended, past MIN", x.lamp(0, 0), 2);
        BarrierLights y = table();
        Check.enact(y, 0);
        Check.trace("without a walk call", y, "4 G-R-----", "3 Y-R-----", "9 R-G-----");
    }

    private static void aWalkCallIsACall() {
        BarrierLights x = table();
        Check.enact(x, 0);
        Check.ticks(x, 20);
        x.press(0, 0);
        Check.due("signs", x.signs(0, 0), 2);
        Check.trace("it moves the barrier", x, "3 R-Y-----", "1 G-R-----");
        Check.due("signs", x.signs(0, 0), 4);
    }

    private static void aGreenPhaseBeginsItsWalkIfNothingIsWanted() {
        BarrierLights x = table();
        Check.enact(x, 0);
        Check.ticks(x, 20);
        x.press(0, 0);
        Check.ticks(x, 20);
        Check.due("phase 0 rests", x.signs(0, 0), 0);
        x.press(0, 0);
        Check.due("before the tick", x.signs(0, 0), 2);
        x.tick(1);
        Check.due("its WALK", x.signs(0, 0), 4);
        x.press(0, 0);
        int[] due = {6, 10, 10, 10, 4, 4, 8, 8, 8, 0, 0};
        for (int sign : due) {
            x.tick(1);
            Check.due("pressed in its WALK, signs at clock " + x.tick(0), x.signs(0, 0), sign);
        }
    }

    private static void aGreenPhaseKeepsItsWalkCallIfSomethingIsWanted() {
        BarrierLights x = table();
        Check.enact(x, 0);
        x.tick(1);
        x.press(0, 0);
        Check.trace("the barrier is needed", x, "3 G-R-----");
        Check.due("signs", x.signs(0, 0), 2);
        Check.trace("it leaves, and comes back for it", x, "3 Y-R-----", "1 R-G-----", "3 R-Y-----", "1 G-R-----");
        Check.due("signs", x.signs(0, 0), 4);
        BarrierLights y = Check.started("0123", 3, 0, 9, 3, 0, 2, 2, 0);
        y.tick(1);
        y.press(0, 0);
        y.tick(1);
        Check.due("a forward phase is wanted", y.signs(0, 0), 2);
    }

    private static void recallThreeCallsToWalk() {
        BarrierLights x = table();
        x.put(0, 0, 7, 3);
        Check.enact(x, 0);
        Check.dueText("no walk call before (c)", Check.signs(x), "1 0 1 0 0 0 0 0");
        x.tick(1);
        Check.due("it begins with WALK", x.signs(0, 0), 4);
        Check.trace("to the end of CLEAR", x, "4 G-R-----", "3 Y-R-----");
        Check.due("a walk call while it isn't green", x.signs(0, 0), 2);
        Check.trace("and again", x, "1 R-G-----", "3 R-Y-----", "1 G-R-----");
        Check.due("it begins with WALK", x.signs(0, 0), 4);
    }
}
