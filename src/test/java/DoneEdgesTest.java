/** Terms, (e) of a tick without an input of greater right: what is wanted, who is DONE, HELD, FORCED, and crosses. */
public final class DoneEdgesTest {
    private static final int[] QUICK = {1, 0, 9, 3, 0, 0, 0, 0};

    public static void main(String[] args) {
        aCallNeedsTheBarrier();
        aCallBehindIsForward();
        aCallBeforeNeedsTheBarrier();
        walkCallsCountAsCalls();
        nothingWantedNothingDone();
        doneNotBeforeMin();
        doneNotBeforeGapIs0();
        doneAtMaxInSpiteOfGap();
        doneNotInWalkOrClear();
        walkBeginsIfNothingIsWanted();
        aRingThatIsNotDoneKeepsTheOther();
        aForwardPhaseKeepsTheOther();
        heldUpToTheSplit();
        heldOverTheCyclesEnd();
        forcedUpToTheSplit();
        forcedButNotInClear();
        crossToTheOtherSideIfThatHasACall();
        eachRingsFirstWithACall();
        aRingWithoutAnyWaitsOn();
        heldButNotFromCrossing();
        notForcedOnSide0();
        aWalkCallStaysThroughYellow();
        heldWithOneRingGreen();
        forcedInEitherRing();
        forcedForward();
        wantedWhileHeld();
        walkBeforeMin();
        walkBesideARingThatGoesForward();
        Check.end();
    }

    private static void callOnce(BarrierLights x, int phase) {
        x.detect(0, phase, true);
        x.tick(1);
        x.detect(0, phase, false);
    }

    /** From a rest at 3 and 7 each call but their own takes both rings. */
    private static void aCallNeedsTheBarrier() {
        String[] after = {"GRRRGRRR", "RGRRGRRR", "RRGRRRGR", "RRRGRRGR", "GRRRGRRR", "GRRRRGRR", "RRGRRRGR", "RRGRRRRG"};
        for (int phase = 0; phase < 8; phase++) {
            BarrierLights x = Check.started("01234567", QUICK);
            Check.ticks(x, 20);
            Check.dueText("rest", Check.lamps(x, 0), "RRRGRRRG");
            callOnce(x, phase);
            boolean green = phase == 3 || phase == 7;
            Check.dueText("a call of " + phase, Check.lamps(x, 0), green ? "RRRGRRRG" : "RRRYRRRY");
            Check.ticks(x, 3);
            Check.dueText("it is served", Check.lamps(x, 0), green ? "RRRGRRRG" : after[phase]);
        }
    }

    /** From a rest at 0 and 4 a call of 1 or 5 takes its own ring alone. */
    private static void aCallBehindIsForward() {
        String[] yellow = {"GRRRGRRR", "YRRRGRRR", "YRRRYRRR", "YRRRYRRR", "GRRRGRRR", "GRRRYRRR", "YRRRYRRR", "YRRRYRRR"};
        String[] green = {"GRRRGRRR", "RGRRGRRR", "RRGRRRGR", "RRRGRRGR", "GRRRGRRR", "GRRRRGRR", "RRGRRRGR", "RRGRRRRG"};
        for (int phase = 0; phase < 8; phase++) {
            BarrierLights x = Check.started("01234567", QUICK);
            Check.ticks(x, 20);
            callOnce(x, 0);
            Check.ticks(x, 5);
            Check.dueText("rest", Check.lamps(x, 0), "GRRRGRRR");
            callOnce(x, phase);
            Check.dueText("a call of " + phase, Check.lamps(x, 0), yellow[phase]);
            Check.ticks(x, 3);
            Check.dueText("it is served", Check.lamps(x, 0), green[phase]);
        }
    }

    /** From a rest at 0 and 5, 4 being before 5, while 1 is behind 0. */
    private static void aCallBeforeNeedsTheBarrier() {
        String[] yellow = {"GRRRRGRR", "YRRRRGRR", "YRRRRYRR", "YRRRRYRR", "YRRRRYRR", "GRRRRGRR", "YRRRRYRR", "YRRRRYRR"};
        for (int phase = 0; phase < 8; phase++) {
            BarrierLights x = Check.started("01234567", QUICK);
            Check.ticks(x, 20);
            callOnce(x, 5);
            Check.ticks(x, 5);
            Check.dueText("rest", Check.lamps(x, 0), "GRRRRGRR");
            callOnce(x, phase);
            Check.dueText("a call of " + phase, Check.lamps(x, 0), yellow[phase]);
        }
    }

    private static void walkCallsCountAsCalls() {
        for (int phase = 0; phase < 8; phase++) {
            BarrierLights x = Check.started("01234567", 1, 0, 9, 3, 0, 1, 1, 0);
            Check.ticks(x, 20);
            Check.dueText("rest", Check.lamps(x, 0), "RRRGRRRG");
            x.press(0, phase);
            x.tick(1);
            boolean green = phase == 3 || phase == 7;
            Check.dueText("a walk call of " + phase, Check.lamps(x, 0), green ? "RRRGRRRG" : "RRRYRRRY");
            Check.due("its signs", x.signs(0, phase), green ? 4 : 2);
            Check.ticks(x, 3);
            Check.due("it is green", x.lamp(0, phase), 4);
        }
    }

    private static void nothingWantedNothingDone() {
        BarrierLights x = Check.started("0246", QUICK);
        Check.ticks(x, 5);
        for (int i = 0; i < 20; i++) {
            x.tick(20);
            Check.dueText("it rests", Check.lamps(x, 0), "R-G-R-G-");
        }
    }

    /** A call comes at each age of the green around MIN 5. */
    private static void doneNotBeforeMin() {
        for (int age = 0; age <= 7; age++) {
            BarrierLights x = new BarrierLights();
            Check.write(x, 0, 0, QUICK);
            Check.write(x, 0, 2, 5, 0, 9, 3, 0, 0, 0, 0);
            Check.enact(x, 0);
            Check.ticks(x, 5);
            Check.due("phase 2 begins", x.lamp(0, 2), 4);
            Check.ticks(x, age);
            x.detect(0, 0, true);
            Check.lampTrace("a call behind age " + age, x, 2, Math.max(4 - age, 0) + " G", "3 Y");
        }
    }

    private static void doneNotBeforeGapIs0() {
        for (int gap = 0; gap <= 4; gap++) {
            BarrierLights x = Check.started("02", 1, 4, 60, 3, 0, 0, 0, 0);
            Check.ticks(x, 15);
            x.detect(0, 2, true);
            x.tick(1);
            x.detect(0, 2, false);
            Check.ticks(x, 4 - gap);
            x.detect(0, 0, true);
            Check.lampTrace("a call at GAP " + gap, x, 2, Math.max(gap - 1, 0) + " G", "3 Y");
        }
    }

    /** The GAP of 10 is never 0: AGAINST decides. */
    private static void doneAtMaxInSpiteOfGap() {
        for (int max : new int[] {1, 2, 3, 10, 40}) {
            BarrierLights x = new BarrierLights();
            Check.write(x, 0, 0, QUICK);
            Check.write(x, 0, 2, 1, 10, max, 3, 0, 0, 0, 2);
            Check.enact(x, 0);
            Check.ticks(x, 10);
            x.detect(0, 0, true);
            Check.lampTrace("MAX " + max, x, 2, (max - 1) + " G", "3 Y");
        }
    }

    private static void doneNotInWalkOrClear() {
        for (int wait = 0; wait <= 6; wait++) {
            BarrierLights x = Check.started("02", 1, 0, 1, 3, 0, 3, 2, 0);
            Check.ticks(x, 20);
            x.press(0, 2);
            x.tick(1);
            Check.due("WALK", x.signs(0, 2), 4);
            Check.ticks(x, wait);
            x.detect(0, 0, true);
            Check.lampTrace("a call " + wait + " ticks behind its WALK's beginning", x, 2, Math.max(4 - wait, 0) + " G", "3 Y");
        }
    }

    /** A walk call and a call at the same tick: the WALK doesn't begin; a tick later the call finds a WALK. */
    private static void walkBeginsIfNothingIsWanted() {
        BarrierLights x = Check.started("02", 1, 0, 9, 3, 0, 1, 1, 0);
        Check.ticks(x, 20);
        x.press(0, 2);
        x.detect(0, 0, true);
        Check.trace("both at once", x, "1 R-Y-----");
        Check.due("the walk call stays", x.signs(0, 2), 2);
        BarrierLights y = Check.started("02", 1, 0, 9, 3, 0, 1, 1, 0);
        Check.ticks(y, 20);
        y.press(0, 2);
        y.tick(1);
        y.detect(0, 0, true);
        Check.trace("a tick later", y, "1 R-G-----", "3 R-Y-----");
        BarrierLights z = Check.started("02", 1, 0, 9, 3, 0, 1, 1, 0);
        Check.ticks(z, 20);
        z.press(0, 2);
        z.tick(1);
        z.press(0, 2);
        Check.signTrace("no second WALK before CLEAR has ended", z, 2, 10, 4, 8, 0);
    }

    private static void aRingThatIsNotDoneKeepsTheOther() {
        for (int min : new int[] {1, 2, 5, 30}) {
            BarrierLights x = new BarrierLights();
            Check.write(x, 0, 0, QUICK);
            Check.write(x, 0, 5, min, 0, 60, 3, 0, 0, 0, 0);
            Check.write(x, 0, 2, QUICK);
            Check.enact(x, 0);
            Check.lampTrace("ring 0 waits for MIN " + min + " of ring 1", x, 0, min + " G", "3 Y", "1 R");
        }
    }

    /** Ring 1 goes forward first; ring 0, done without a forward phase, stays green until that is done, too. */
    private static void aForwardPhaseKeepsTheOther() {
        BarrierLights x = Check.started("0452", QUICK);
        Check.trace("both leave together", x, "1 G-R-GR--", "3 G-R-YR--", "1 G-R-RG--", "3 Y-R-RY--", "5 R-G-RR--");
    }

    /** With a message at clock 0 the local clock behind tick n is n - 1. */
    private static BarrierLights planned(int cycle, int split, int... row) {
        BarrierLights x = Check.started("02", row);
        x.plan(0, cycle, 0, split);
        x.message(0, 0, 0);
        return x;
    }

    private static void heldUpToTheSplit() {
        for (int split : new int[] {1, 2, 3, 10, 19}) {
            BarrierLights x = planned(20, split, QUICK);
            Check.lampTrace("SPLIT " + split + " of 20", x, 0, split + " G", "3 Y", "1 R");
        }
        BarrierLights y = planned(120, 119, QUICK);
        Check.ticks(y, 20);
        y.message(0, 1, 0);
        Check.ticks(y, 29);
        Check.due("SPLIT 119 of 120: held", y.lamp(0, 0), 4);
        y.tick(1);
        Check.due("until the plan is gone", y.lamp(0, 0), 2);
    }

    /** A call for side 1 comes while side 0 isn't held: at local clock 18, 19; then from 0 on it is. */
    private static void heldOverTheCyclesEnd() {
        for (int wait = 16; wait <= 22; wait++) {
            BarrierLights x = planned(20, 3, QUICK);
            x.target(0, 0, 0);
            x.preempt(0, 0, true);
            Check.ticks(x, wait);
            x.preempt(0, 0, false);
            int local = wait % 20;
            int held = local < 3 ? 3 - local : 0;
            Check.lampTrace("free at local clock " + local, x, 0, held + " G", "3 Y");
        }
    }

    /** Side 1, its GAP never 0: forced at local clock 0 .. split - 1, not at split. */
    private static void forcedUpToTheSplit() {
        for (int wait = 15; wait <= 26; wait++) {
            BarrierLights x = Check.started("02", 1, 10, 60, 3, 0, 0, 0, 2);
            x.plan(0, 20, 0, 4);
            x.message(0, 0, 0);
            x.target(0, 0, 2);
            x.preempt(0, 0, true);
            Check.ticks(x, wait);
            x.preempt(0, 0, false);
            int local = wait % 20;
            x.tick(1);
            Check.due("at local clock " + local, x.crossing(0, 4), local);
            Check.due("side 1 at local clock " + local, x.lamp(0, 2), local < 4 ? 2 : 4);
        }
    }

    private static void forcedButNotInClear() {
        BarrierLights x = planned(120, 119, 1, 10, 60, 3, 0, 2, 3, 2);
        x.press(0, 2);
        x.target(0, 0, 2);
        x.preempt(0, 0, true);
        x.tick(1);
        x.preempt(0, 0, false);
        Check.lampTrace("WALK 2, CLEAR 3", x, 2, "4 G", "3 Y");
    }

    /** Side 0 rests; a call of its own phase before brings side 0 again, with one of side 1 it brings side 1. */
    private static void crossToTheOtherSideIfThatHasACall() {
        for (int other : new int[] {-1, 2, 3, 6, 7}) {
            BarrierLights x = Check.started("01234567", QUICK);
            Check.ticks(x, 20);
            x.detect(0, 1, true);
            x.detect(0, 5, true);
            x.tick(1);
            x.detect(0, 1, false);
            x.detect(0, 5, false);
            Check.ticks(x, 10);
            Check.dueText("rest", Check.lamps(x, 0), "RGRRRGRR");
            x.detect(0, 0, true);
            x.detect(0, other, true);
            x.tick(1);
            x.detect(0, 0, false);
            x.detect(0, other, false);
            Check.ticks(x, 3);
            Check.due("side, with a call of " + other, x.crossing(0, 0), other < 0 ? 0 : 1);
            Check.due("phase 0", x.lamp(0, 0), other < 0 ? 4 : 1);
        }
    }

    private static void eachRingsFirstWithACall() {
        String[][] callsAndDue = {{"0", "GRRRGRRR"}, {"1", "RGRRGRRR"}, {"01", "GRRRGRRR"}, {"5", "GRRRRGRR"},
            {"15", "RGRRRGRR"}, {"05", "GRRRRGRR"}, {"0145", "GRRRGRRR"}, {"14", "RGRRGRRR"}};
        for (String[] row : callsAndDue) {
            BarrierLights x = Check.started("01234567", QUICK);
            Check.ticks(x, 20);
            for (char phase : row[0].toCharArray()) {
                x.detect(0, phase - '0', true);
            }
            x.tick(1);
            for (char phase : row[0].toCharArray()) {
                x.detect(0, phase - '0', false);
            }
            Check.trace("calls of " + row[0], x, "2 RRRYRRRY", "1 " + row[1]);
        }
        BarrierLights y = Check.started("1257", QUICK);
        Check.trace("the first that is used", y, "1 -GR--G-R", "3 -YR--Y-R", "3 -RG--R-G");
    }

    private static void aRingWithoutAnyWaitsOn() {
        BarrierLights x = Check.started("06", QUICK);
        x.tick(1);
        Check.dueText("ring 1 has none on side 0", Check.state(x, 0), "0 1 0 -1 -1 0 -1");
        Check.ticks(x, 4);
        Check.dueText("ring 0 has none on side 1", Check.state(x, 0), "1 1 0 -1 -1 -1 6");
        BarrierLights y = Check.started("53", QUICK);
        y.tick(1);
        Check.dueText("ring 0 has none on side 0", Check.state(y, 0), "0 1 0 -1 -1 -1 5");
        Check.ticks(y, 4);
        Check.dueText("ring 1 has none on side 1", Check.state(y, 0), "1 1 0 -1 -1 3 -1");
    }

    /** Side 0 is left at local clock 19 and its rings wait from 2 on: they cross, though 2 is less than the split. */
    private static void heldButNotFromCrossing() {
        BarrierLights x = planned(20, 9, QUICK);
        x.target(0, 0, 0);
        x.preempt(0, 0, true);
        Check.ticks(x, 19);
        x.preempt(0, 0, false);
        Check.trace("it isn't held at 19", x, "3 Y-R-----");
        x.tick(1);
        Check.dueText("it crosses", Check.state(x, 0), "1 2 0 0 2 2 -1");
    }

    /** Its GAP is never 0: on side 0 MAX ends it, before the split (with a forward phase) and from it on. */
    private static void notForcedOnSide0() {
        for (int split : new int[] {1, 19}) {
            BarrierLights x = Check.started(split == 1 ? "02" : "012", 1, 9, 9, 3, 0, 0, 0, 0);
            x.plan(0, 20, 0, split);
            x.message(0, 0, 0);
            x.detect(0, 0, true);
            Check.lampTrace("SPLIT " + split, x, 0, "9 G", "3 Y");
        }
    }

    /** A walk call that came while something was wanted is there still when its ring has gone forward. */
    private static void aWalkCallStaysThroughYellow() {
        BarrierLights x = Check.started("012", 3, 0, 9, 3, 1, 1, 1, 0);
        x.tick(1);
        x.press(0, 0);
        Check.signTrace("green, yellow, red, and phase 1 behind it", x, 0, 2, 2, 2, 2, 2, 2, 2, 2);
        Check.dueText("phase 1", Check.lamps(x, 0), "RGR-----");
    }

    /** The other ring has no phase on side 0 and waits. */
    private static void heldWithOneRingGreen() {
        for (int phase : new int[] {0, 1, 4, 5}) {
            BarrierLights x = Check.started(phase + "2", QUICK);
            x.plan(0, 20, 0, 6);
            x.message(0, 0, 0);
            Check.lampTrace("phase " + phase + " alone", x, phase, "6 G", "3 Y", "1 R");
        }
    }

    /** Phase 0 has a call at the input's end; the GAP is never 0 and MAX far away. */
    private static void forcedInEitherRing() {
        for (int phase : new int[] {2, 3, 6, 7}) {
            for (int local = 18; local <= 22; local++) {
                BarrierLights x = Check.started("0" + phase, 1, 10, 60, 3, 0, 0, 0, 2);
                Check.due(phase + " at local clock " + local, lampBehindAnInput(x, phase, local), local < 20 ? 4 : 2);
            }
        }
    }

    private static int lampBehindAnInput(BarrierLights x, int phase, int ticks) {
        x.plan(0, 20, 0, 4);
        x.message(0, 0, 0);
        x.target(0, 0, phase);
        x.preempt(0, 0, true);
        Check.ticks(x, ticks);
        x.preempt(0, 0, false);
        x.tick(1);
        return x.lamp(0, phase);
    }

    /** The forward phase 3 of ring 0, or 7 of ring 1, has a call too. */
    private static void forcedForward() {
        for (int phase : new int[] {2, 6}) {
            for (int local = 18; local <= 22; local++) {
                BarrierLights x = Check.started("0" + phase + (phase + 1), 1, 10, 60, 3, 0, 0, 0, 2);
                int due = local < 20 ? 4 : 2;
                Check.due(phase + " at local clock " + local, lampBehindAnInput(x, phase, local), due);
                Check.ticks(x, 3);
                Check.due("3 ticks behind it", x.lamp(0, phase + 1), due == 2 ? 4 : 1);
            }
        }
    }

    /** Held isn't unwanted: the button of a green phase waits as long as the call of the other side does. */
    private static void wantedWhileHeld() {
        BarrierLights x = planned(20, 9, 1, 0, 9, 3, 0, 1, 1, 0);
        x.tick(1);
        x.press(0, 0);
        Check.signTrace("no WALK begins", x, 0, 2, 2, 2, 2, 2, 2, 2, 2, 2);
        Check.due("yellow", x.lamp(0, 0), 2);
    }

    /** Nothing is wanted from tick 13 on, when phase 2 begins; a plan changes nothing of that. */
    private static void walkBeforeMin() {
        for (boolean byPlan : new boolean[] {false, true}) {
            BarrierLights x = Check.started("02", 9, 0, 9, 3, 0, 2, 2, 0);
            x.plan(0, 20, 0, 1);
            Check.ticks(x, 13);
            Check.due("message", byPlan && x.message(0, 0, 0), byPlan);
            Check.due("phase 2 is 0 old", x.lamp(0, 2), 4);
            x.press(0, 2);
            Check.signTrace("a plan " + byPlan, x, 2, 4, 4, 8, 8, 0);
        }
    }

    /** Phase 1 is wanted of ring 0 alone: ring 1 begins its WALK. */
    private static void walkBesideARingThatGoesForward() {
        for (int ring = 0; ring < 2; ring++) {
            int walks = ring == 0 ? 4 : 0;
            BarrierLights x = Check.started("01452", 1, 0, 9, 3, 0, 1, 1, 0);
            Check.ticks(x, 15);
            callOnce(x, 0);
            Check.ticks(x, 5);
            Check.dueText("rest", Check.lamps(x, 0), "GRR-GR--");
            x.detect(0, ring * 4 + 1, true);
            x.press(0, walks);
            x.tick(1);
            Check.due("yellow", x.lamp(0, ring * 4), 2);
            Check.due("WALK", x.signs(0, walks), 4);
        }
    }
}
