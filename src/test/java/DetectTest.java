/** Promise 5, and (a), (c) of a tick as far as detectors go. */
public final class DetectTest {
    public static void main(String[] args) {
        whatIsNotThereIsRefused();
        aDetectorCallsAtTheNextTick();
        aDetectorExtendsItsGreen();
        theGapRunsOut();
        aPhaseBeginsWithItsPassage();
        aDetectorFails();
        aFailedDetectorCallsButDoesNotExtend();
        Check.end();
    }

    private static void whatIsNotThereIsRefused() {
        BarrierLights x = new BarrierLights();
        for (int crossing = 0; crossing < 2; crossing++) {
            for (int phase = 0; phase < 8; phase++) {
                Check.due("detect on", x.detect(crossing, phase, true), true);
                Check.due("detect off", x.detect(crossing, phase, false), true);
            }
        }
        for (int wrong : new int[] {-1, 8, Integer.MIN_VALUE, Integer.MAX_VALUE}) {
            Check.due("detect at phase " + wrong, x.detect(0, wrong, true), false);
        }
        for (int wrong : new int[] {-1, 2, Integer.MIN_VALUE, Integer.MAX_VALUE}) {
            Check.due("detect at crossing " + wrong, x.detect(wrong, 0, true), false);
        }
    }

    private static void aDetectorCallsAtTheNextTick() {
        BarrierLights x = Check.started("0246", 1, 0, 1, 3, 0, 0, 0, 0);
        Check.trace("to its rest", x, "1 G-R-G-R-", "3 Y-R-Y-R-", "1 R-G-R-G-");
        x.detect(0, 1, true);
        x.detect(0, 6, true);
        x.detect(1, 4, true);
        Check.trace("unused, green and foreign detectors call for nothing", x, "5 R-G-R-G-");
        Check.dueText("signs", Check.signs(x), "0 0 0 0 0 0 0 0");
        x.detect(0, 4, true);
        Check.dueText("no call before the tick", Check.signs(x), "0 0 0 0 0 0 0 0");
        x.detect(0, 4, false);
        x.tick(1);
        Check.dueText("nor if it was on between ticks alone", Check.signs(x), "0 0 0 0 0 0 0 0");
        x.detect(0, 6, false);
        x.detect(0, 4, true);
        x.tick(1);
        x.detect(0, 4, false);
        Check.dueText("signs", Check.signs(x), "0 0 0 0 1 0 0 0");
        Check.trace("the call stays, phase 0 begins beside it", x, "2 R-Y-R-Y-", "9 G-R-G-R-");
        Check.dueText("the call is gone", Check.signs(x), "0 0 0 0 0 0 0 0");
    }

    private static void aDetectorExtendsItsGreen() {
        BarrierLights x = Check.started("01234567", 2, 3, 5, 3, 0, 0, 0, 0);
        x.detect(0, 0, true);
        Check.trace("to MAX in ring 0, by MIN in ring 1", x, "2 GRRRGRRR", "3 GRRRYRRR", "3 YRRRRGRR",
            "2 RGRRRGRR", "3 RYRRRYRR", "2 RRGRRRGR", "3 RRYRRRYR", "2 RRRGRRRG", "3 RRRYRRRY", "2 GRRRGRRR");
    }

    private static void theGapRunsOut() {
        BarrierLights x = Check.started("02", 1, 3, 20, 3, 0, 0, 0, 0);
        x.detect(0, 0, true);
        Check.trace("while it is on", x, "2 G-R-----");
        x.detect(0, 0, false);
        Check.trace("three ticks behind it", x, "2 G-R-----", "3 Y-R-----", "9 R-G-----");
    }

    private static void aPhaseBeginsWithItsPassage() {
        BarrierLights x = Check.started("02", 1, 3, 20, 3, 0, 0, 0, 0);
        x.detect(0, 0, true);
        x.tick(1);
        x.detect(0, 0, false);
        Check.trace("GAP at the beginning is PASSAGE", x, "2 G-R-----", "3 Y-R-----");
    }

    private static void aDetectorFails() {
        BarrierLights x = Check.started("0246", 1, 0, 1, 3, 0, 0, 0, 0);
        x.detect(0, 3, true);
        x.detect(1, 3, true);
        Check.ticks(x, 59);
        Check.due("at 59", x.signs(0, 3), 0);
        Check.due("at 59, OFF", x.signs(1, 3), 0);
        Check.ticks(x, 1);
        Check.due("at 60", x.signs(0, 3), 16);
        Check.due("at 60, OFF", x.signs(1, 3), 16);
        Check.ticks(x, 140);
        Check.due("at 200", x.signs(0, 3), 16);
        x.detect(0, 3, false);
        Check.due("off, before the tick", x.signs(0, 3), 16);
        x.detect(0, 3, true);
        x.tick(1);
        Check.due("on again, without a tick between", x.signs(0, 3), 16);
        x.detect(0, 3, false);
        x.tick(1);
        Check.due("off", x.signs(0, 3), 0);
        x.detect(0, 3, true);
        Check.ticks(x, 59);
        Check.due("59 later", x.signs(0, 3), 0);
        Check.ticks(x, 1);
        Check.due("60 later", x.signs(0, 3), 16);
    }

    private static void aFailedDetectorCallsButDoesNotExtend() {
        for (int wait = 58; wait <= 60; wait++) {
            BarrierLights x = new BarrierLights();
            Check.write(x, 0, 0, 1, 2, 30, 3, 0, 0, 0, 0);
            Check.write(x, 0, 2, 1, 0, 1, 3, 0, 0, 0, 0);
            x.detect(0, 0, true);
            Check.ticks(x, wait);
            Check.enact(x, 0);
            String name = "on for " + wait;
            if (wait == 58) {
                Check.trace(name, x, "2 G-R-----", "3 Y-R-----");
            } else {
                Check.trace(name, x, "1 G-R-----", "3 Y-R-----");
            }
            Check.due(name + ": it calls", x.signs(0, 0), 17);
            Check.trace(name, x, "1 R-G-----", "3 R-Y-----", "9 G-R-----");
        }
    }
}
