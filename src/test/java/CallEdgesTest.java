/** Terms, (c) of a tick: who has a call from now on, and how the GAP of a green phase runs out. */
public final class CallEdgesTest {
    public static void main(String[] args) {
        recallFrom0To3();
        onlyWhatIsUsedAndNotGreen();
        yellowAndRedAreNotGreen();
        aDetectorThatIsOnAtTheTick();
        aFailedDetector();
        gapIsPassageWhileOn();
        gapStaysAt0();
        gapAtTheBeginning();
        gapAtTheBeginningOfAWalk();
        gapWithAPlanOrAnInput();
        gapWithRecall2();
        gapOfAFailedDetector();
        noCallsWhileItFlashes();
        aGreenPhaseGetsNoCall();
        gapRunsOutInWalkAndClear();
        Check.end();
    }

    /** Phases 0 and 2, of which phase 0 has this RECALL. */
    private static BarrierLights recalled(int recall) {
        BarrierLights x = new BarrierLights();
        Check.write(x, 0, 0, 1, 2, 4, 3, 0, 1, 1, recall);
        Check.write(x, 0, 2, 1, 0, 60, 3, 0, 0, 0, 0);
        Check.enact(x, 0);
        return x;
    }

    /** At rest in phase 2, RECALL 0 leaves phase 0 without a call. */
    private static void recallFrom0To3() {
        int[] signs = {0, 1, 1, 2};
        for (int recall = 0; recall <= 3; recall++) {
            BarrierLights x = recalled(recall);
            Check.ticks(x, 20);
            x.target(0, 0, 2);
            x.preempt(0, 0, true);
            Check.ticks(x, 20);
            Check.dueText("phase 2 is green", Check.lamps(x, 0), "R-G-----");
            Check.due("signs with RECALL " + recall, x.signs(0, 0), signs[recall]);
        }
    }

    private static void onlyWhatIsUsedAndNotGreen() {
        for (int phase = 0; phase < 8; phase++) {
            BarrierLights x = Check.started("0246", 1, 0, 9, 3, 0, 0, 0, 0);
            Check.ticks(x, 10);
            Check.dueText("rest", Check.lamps(x, 0), "R-G-R-G-");
            x.detect(0, phase, true);
            x.tick(1);
            Check.due("a call of phase " + phase, x.signs(0, phase), phase == 0 || phase == 4 ? 1 : 0);
            for (int other = 0; other < 8; other++) {
                if (other != phase) {
                    Check.due("none of phase " + other, x.signs(0, other), 0);
                }
            }
        }
    }

    /** Phase 0 is green at ticks 1 and 2, yellow at 3 to 5, red at 6 to 8, not the ring's from 9 on. */
    private static void yellowAndRedAreNotGreen() {
        for (int tick = 1; tick <= 10; tick++) {
            BarrierLights x = Check.started("02", 2, 0, 9, 3, 3, 0, 0, 0);
            Check.ticks(x, tick - 1);
            x.detect(0, 0, true);
            x.tick(1);
            x.detect(0, 0, false);
            // At tick 3 it still is green in (c) and becomes yellow in (e).
            Check.due("on at tick " + tick + " alone", x.signs(0, 0), tick <= 3 ? 0 : 1);
        }
    }

    private static void aDetectorThatIsOnAtTheTick() {
        BarrierLights x = Check.started("02", 1, 0, 9, 3, 0, 0, 0, 0);
        Check.ticks(x, 10);
        x.detect(0, 0, true);
        Check.due("before the tick", x.signs(0, 0), 0);
        x.tick(0);
        Check.due("no tick at all", x.signs(0, 0), 0);
        x.detect(0, 0, false);
        x.tick(1);
        Check.due("off again before the tick", x.signs(0, 0), 0);
        x.detect(0, 0, true);
        x.tick(1);
        x.detect(0, 0, false);
        Check.due("on at the tick", x.signs(0, 0), 1);
        x.tick(1);
        Check.due("from now on", x.signs(0, 0), 1);
    }

    private static void aFailedDetector() {
        for (int wait : new int[] {58, 59, 60, 61}) {
            BarrierLights x = Check.started("02", 1, 0, 1, 3, 0, 0, 0, 0);
            x.target(0, 0, 2);
            x.preempt(0, 0, true);
            x.tick(1);
            x.detect(0, 0, true);
            Check.ticks(x, wait);
            Check.due("on for " + wait, x.signs(0, 0), wait >= 60 ? 17 : 1);
            x.preempt(0, 0, false);
            Check.trace("it brings phase 0 after " + wait, x, "3 R-Y-----", "2 G-R-----");
        }
    }

    /** On for so many ticks from the beginning, it is green for that and PASSAGE, less 1, but not less than 1. */
    private static void gapIsPassageWhileOn() {
        for (int passage : new int[] {0, 1, 2, 9, 10}) {
            for (int on = 0; on <= 4; on++) {
                BarrierLights x = new BarrierLights();
                Check.write(x, 0, 0, 1, passage, 60, 3, 0, 0, 0, 0);
                Check.write(x, 0, 2, 1, 0, 60, 3, 0, 0, 0, 0);
                Check.enact(x, 0);
                int green = on == 0 || passage == 0 ? 1 : on + passage - 1;
                for (int tick = 1; tick <= green + 1; tick++) {
                    x.detect(0, 0, tick <= on);
                    x.tick(1);
                    Check.due("PASSAGE " + passage + ", on for " + on + ", tick " + tick, x.lamp(0, 0),
                        tick <= green ? 4 : 2);
                }
            }
        }
    }

    /** Long after the GAP has run out, it is 0 still, and a call takes the green at once. */
    private static void gapStaysAt0() {
        BarrierLights x = Check.started("02", 1, 2, 60, 3, 0, 0, 0, 0);
        x.detect(0, 2, true);
        Check.ticks(x, 10);
        x.detect(0, 2, false);
        Check.ticks(x, 40);
        Check.dueText("rest", Check.lamps(x, 0), "R-G-----");
        x.detect(0, 0, true);
        Check.trace("a call", x, "3 R-Y-----", "1 G-R-----");
        BarrierLights y = Check.started("02", 1, 2, 60, 3, 0, 0, 0, 0);
        Check.ticks(y, 40);
        y.detect(0, 2, true);
        y.tick(1);
        y.detect(0, 2, false);
        y.detect(0, 0, true);
        Check.trace("GAP was 2, is 1, then 0", y, "1 R-G-----", "3 R-Y-----");
    }

    private static void gapAtTheBeginning() {
        for (int passage = 0; passage <= 3; passage++) {
            BarrierLights x = Check.started("02", 1, passage, 60, 3, 0, 0, 0, 0);
            x.detect(0, 0, true);
            x.tick(1);
            x.detect(0, 0, false);
            int green = passage <= 1 ? 0 : passage - 1;
            Check.trace("on at its beginning, PASSAGE " + passage, x, green + " G-R-----", "3 Y-R-----");
            BarrierLights y = Check.started("02", 1, passage, 60, 3, 0, 0, 0, 0);
            y.tick(1);
            Check.trace("off at its beginning, PASSAGE " + passage, y, "3 Y-R-----");
        }
    }

    /** RECALL 2 makes the GAP PASSAGE at each tick of its green, so that MAX ends it; not if PASSAGE is 0. */
    private static void gapWithRecall2() {
        for (int passage : new int[] {0, 1, 10}) {
            BarrierLights x = new BarrierLights();
            Check.write(x, 0, 0, 2, passage, 7, 3, 0, 0, 0, 2);
            Check.write(x, 0, 2, 1, 0, 60, 3, 0, 0, 0, 0);
            Check.enact(x, 0);
            Check.trace("PASSAGE " + passage, x, (passage == 0 ? 2 : 7) + " G-R-----", "3 Y-R-----", "1 R-G-----");
        }
    }

    /** Its detector fails at the tick at which it is on for 60: from then on the GAP of 10 runs out. */
    private static void gapOfAFailedDetector() {
        for (int before : new int[] {49, 50, 51}) {
            BarrierLights x = new BarrierLights();
            Check.write(x, 0, 0, 1, 10, 60, 3, 0, 0, 0, 0);
            Check.write(x, 0, 2, 1, 0, 60, 3, 0, 0, 0, 0);
            x.detect(0, 0, true);
            Check.ticks(x, before);
            Check.enact(x, 0);
            // On at ticks 1 to 59 - before of its green, then 10 ticks until the GAP is 0.
            Check.lampTrace("on for " + before + " before it", x, 0, (59 - before + 9) + " G", "3 Y");
        }
    }

    private static void noCallsWhileItFlashes() {
        BarrierLights x = recalled(1);
        x.detect(0, 2, true);
        x.fault(0, 2, 2);
        x.tick(1);
        Check.dueText("it flashes", Check.lamps(x, 0), "*-*-----");
        x.tick(5);
        Check.dueText("no calls", Check.signs(x), "0 0 0 0 0 0 0 0");
        BarrierLights y = recalled(3);
        y.fault(0, 2, 2);
        y.tick(6);
        Check.dueText("no walk calls", Check.signs(y), "0 0 0 0 0 0 0 0");
    }

    /** Phase 0 comes again by its RECALL and rests: while it is green that gives it nothing, nor a second WALK. */
    private static void aGreenPhaseGetsNoCall() {
        for (int recall = 1; recall <= 3; recall++) {
            BarrierLights x = recalled(recall);
            Check.ticks(x, recall == 3 ? 9 : recall == 2 ? 11 : 8);
            int[] signs = recall == 3 ? new int[] {4, 8, 0, 0, 0, 0, 0, 0} : new int[8];
            Check.dueText("the last tick of phase 2", Check.lamps(x, 0), "R-Y-----");
            Check.signTrace("at rest with RECALL " + recall, x, 0, signs);
            Check.dueText("it rests", Check.lamps(x, 0), "G-R-----");
        }
    }

    /** Its detector was on at its beginning alone: the GAP of 4 is 0 long before CLEAR ends. */
    private static void gapRunsOutInWalkAndClear() {
        for (int clear = 1; clear <= 3; clear++) {
            BarrierLights x = Check.started("02", 1, 4, 60, 3, 0, 4, clear, 0);
            x.press(0, 0);
            x.detect(0, 0, true);
            x.tick(1);
            x.detect(0, 0, false);
            Check.lampTrace("WALK 4, CLEAR " + clear, x, 0, (3 + clear) + " G", "3 Y");
        }
    }

    /** A button is no detector: the GAP is 0, and the green ends with CLEAR. */
    private static void gapAtTheBeginningOfAWalk() {
        BarrierLights x = Check.started("02", 1, 10, 60, 3, 0, 1, 1, 0);
        x.press(0, 0);
        Check.lampTrace("WALK 1, CLEAR 1", x, 0, "2 G", "3 Y");
    }

    /** PASSAGE 4: the GAP is 0 four ticks behind the last at which it was on, whatever the crossing goes by. */
    private static void gapWithAPlanOrAnInput() {
        for (int on = 1; on <= 4; on++) {
            for (boolean byInput : new boolean[] {false, true}) {
                BarrierLights x = Check.started("02", 1, 4, 60, 3, 0, 0, 0, 0);
                x.plan(0, 20, 0, 1);
                x.message(0, 0, 0);
                x.target(0, 0, 0);
                for (int tick = 1; tick <= 4; tick++) {
                    x.preempt(0, 0, byInput && tick > 1);
                    x.detect(0, 0, tick <= on);
                    x.tick(1);
                }
                x.preempt(0, 0, false);
                x.detect(0, 0, false);
                Check.lampTrace("on for " + on + ", an input " + byInput, x, 0, (on - 1) + " G", "3 Y");
            }
        }
    }
}
